/-! ROWS OF ARRAYS AND NEW CELLS -/
section SPA
variable {l : Launch} {G : sp_G} {own : String} {cc : ByteArray} {nL : Nat} {init : Bool} {ret : Option FieldType} {R : Room} {Qo : Option (Option Value → sp_M → Prop)} {w : sp_T}
variable {k n : Nat} {m : sp_M} {pc : Nat} {lv : sp_L} {rest : List Value}
theorem sp_P1 {D : va_G} {cl : List vw_C} {a : Nat} {e : va_E} {H : Heap} (h : va_at D cl (a, e) H) : va_P D cl [(a, e)] H := by
  intro k q hk
  have hz : k < 1 := (List.getElem?_eq_some_iff.mp hk).1
  rw [show k = 0 by omega] at hk
  cases hk
  exact h
theorem sp_inlt {j : Int32} {N : Nat} (h : vp_in j N) : j.toNatClampNeg < N := Nat.not_le.mp fun q => h (Or.inr q)
theorem sp_cons {locs : List Loc} {b a : Nat} (i : Nat) (hL : ∀ q ∈ locs, b ≤ q.base) (ha : b ≤ a) : ∀ q ∈ locs ++ [(⟨a, i⟩ : Loc)], b ≤ q.base := fun q hq => by
  rcases List.mem_append.mp hq with h | h
  · exact hL q h
  · rw [List.mem_singleton.mp h]
    exact ha

theorem sp_H.arrI {H : Heap} (hH : sp_H G m H) {a : Nat} (ha : m.ty a = 20) : G.base ≤ a ∧ H[a]? = some (vp_cell G.Y.1 (m.ln a, .inl (m.aI a))) := by
  rcases hH.2.2.2 a (by omega) with h1 | h1
  · omega
  · refine ⟨h1.1, ?_⟩
    have h2 := h1.2.2
    rw [show sp_e G.Y m a = .inl (G.Y.1, m.ln a, .inl (m.aI a)) by
      unfold sp_e

      rw [if_pos ha]] at h2
    exact h2
theorem sp_H.arrL {H : Heap} (hH : sp_H G m H) {a : Nat} (ha : m.ty a = 21) : G.base ≤ a ∧ H[a]? = some (vp_cell G.Y.2.1 (m.ln a, .inr (.inl (m.aL a)))) := by
  rcases hH.2.2.2 a (by omega) with h1 | h1
  · omega
  · refine ⟨h1.1, ?_⟩
    have h2 := h1.2.2
    rw [show sp_e G.Y m a = .inl (G.Y.2.1, m.ln a, .inr (.inl (m.aL a))) by
      unfold sp_e
      rw [if_neg (by omega)]
      rw [if_pos ha]] at h2
    exact h2
theorem sp_H.arrZ {H : Heap} (hH : sp_H G m H) {a : Nat} (ha : m.ty a = 22) : G.base ≤ a ∧ H[a]? = some (vp_cell G.Y.2.2.1 (m.ln a, .inl (m.aI a))) := by
  rcases hH.2.2.2 a (by omega) with h1 | h1
  · omega
  · refine ⟨h1.1, ?_⟩
    have h2 := h1.2.2
    rw [show sp_e G.Y m a = .inl (G.Y.2.2.1, m.ln a, .inl (m.aI a)) by
      unfold sp_e
      rw [if_neg (by omega)]
      rw [if_neg (by omega)]
      rw [if_pos ha]] at h2
    exact h2
theorem sp_H.arrR {H : Heap} (hH : sp_H G m H) {a : Nat} (ha : m.ty a = 23) : G.base ≤ a ∧ H[a]? = some (vp_cell G.Y.2.2.2 (m.ln a, .inr (.inr (.inr (.inr (m.aR a)))))) := by
  rcases hH.2.2.2 a (by omega) with h1 | h1
  · omega
  · refine ⟨h1.1, ?_⟩
    have h2 := h1.2.2
    rw [show sp_e G.Y m a = .inl (G.Y.2.2.2, m.ln a, .inr (.inr (.inr (.inr (m.aR a))))) by
      unfold sp_e
      rw [if_neg (by omega)]
      rw [if_neg (by omega)]
      rw [if_neg (by omega)]
      rw [if_pos ha]] at h2
    exact h2
theorem sp_H.old {H : Heap} (hH : sp_H G m H) {a : Nat} (ha : 24 ≤ m.ty a) : a < G.base ∧ m.ty a = G.oty a ∧ m.ln a = G.oln a ∧ (∀ j, m.aI a j = G.oI a j) ∧ H[a]? = G.H0[a]? := by
  rcases hH.2.2.2 a (by omega) with h1 | h1
  · exact ⟨h1.1, h1.2.2.1, h1.2.2.2.1, h1.2.2.2.2, hH.2.2.1 a h1.1⟩
  · omega
theorem sp_iaload (X : sp_X l G own cc nL init ret R Qo w) {r : Option Nat} {a : Nat} {j : Int32} (hr : r = some a) (hty : m.ty a = 20 ∨ m.ty a = 24) (hin : vp_in j (m.ln a)) (hdg : decode cc pc = .ok (.iaload, 1)) (kk : w k n m (pc + 1) lv (.int (m.aI a j.toNatClampNeg) :: rest)) : w k n m pc lv (.int j :: va_rf r :: rest) := by
  subst hr
  obtain ⟨p, e, s, mm, args, below, meth, cd, Q, hx, hb, hml, hown, hlocks, hret, hini, hK, hQ, rfl⟩ := X
  intro hk0 hn0 H locs ls hH hL hl
  rcases hty with hty | hty
  · obtain ⟨hb0, hc⟩ := hH.arrI hty
    exact va_iald (D := G.D) (cl := vwCl) hx hb hK.1 (sp_P1 (e := .inl (G.Y.1, m.ln a, .inl (m.aI a))) hc) 0 0 rfl rfl hin hdg (kk hk0 hn0 H locs ls hH hL hl)
  · obtain ⟨h1, h2, h3, h4, h5⟩ := hH.old (a := a) (by omega)
    obtain ⟨scr, g1, g2, g3, g4, g5⟩ := (hK.2.2.1 a).1 (by rw [← h2]; exact hty)
    have hlt := sp_inlt hin
    have hin2 : ¬ (j < 0 ∨ scr.slots.size ≤ j.toNatClampNeg) := by
      rw [g4, ← h3]
      exact hin
    refine W.iald hx hb (by rw [h5]; exact g1) g2 g3 hin2 (g5 _ (by rw [← h3]; exact hlt)) rfl rfl hdg ?_
    rw [← h4]
    exact kk hk0 hn0 H locs ls hH hL hl
theorem sp_laload (X : sp_X l G own cc nL init ret R Qo w) {r : Option Nat} {a : Nat} {j : Int32} (hr : r = some a) (hty : m.ty a = 21) (hin : vp_in j (m.ln a)) (hdg : decode cc pc = .ok (.laload, 1)) (kk : w k n m (pc + 1) lv (.long (m.aL a j.toNatClampNeg) :: rest)) : w k n m pc lv (.int j :: va_rf r :: rest) := by
  subst hr
  obtain ⟨p, e, s, mm, args, below, meth, cd, Q, hx, hb, hml, hown, hlocks, hret, hini, hK, hQ, rfl⟩ := X
  intro hk0 hn0 H locs ls hH hL hl
  obtain ⟨hb0, hc⟩ := hH.arrL hty
  exact va_lald (D := G.D) (cl := vwCl) hx hb hK.1 (sp_P1 (e := .inl (G.Y.2.1, m.ln a, .inr (.inl (m.aL a)))) hc) 0 1 rfl rfl hin hdg (kk hk0 hn0 H locs ls hH hL hl)
theorem sp_baload (X : sp_X l G own cc nL init ret R Qo w) {r : Option Nat} {a : Nat} {j : Int32} (hr : r = some a) (hty : m.ty a = 22) (hin : vp_in j (m.ln a)) (hdg : decode cc pc = .ok (.baload, 1)) (kk : w k n m (pc + 1) lv (.int (m.aI a j.toNatClampNeg) :: rest)) : w k n m pc lv (.int j :: va_rf r :: rest) := by
  subst hr
  obtain ⟨p, e, s, mm, args, below, meth, cd, Q, hx, hb, hml, hown, hlocks, hret, hini, hK, hQ, rfl⟩ := X
  intro hk0 hn0 H locs ls hH hL hl
  obtain ⟨hb0, hc⟩ := hH.arrZ hty
  exact va_zald (D := G.D) (cl := vwCl) hx hb hK.1 (sp_P1 (e := .inl (G.Y.2.2.1, m.ln a, .inl (m.aI a))) hc) 0 2 rfl rfl hin hdg (kk hk0 hn0 H locs ls hH hL hl)
theorem sp_aaload (X : sp_X l G own cc nL init ret R Qo w) {r : Option Nat} {a : Nat} {j : Int32} (hr : r = some a) (hty : m.ty a = 23) (hin : vp_in j (m.ln a)) (hdg : decode cc pc = .ok (.aaload, 1)) (kk : w k n m (pc + 1) lv (va_rf (m.aR a j.toNatClampNeg) :: rest)) : w k n m pc lv (.int j :: va_rf r :: rest) := by
  subst hr
  obtain ⟨p, e, s, mm, args, below, meth, cd, Q, hx, hb, hml, hown, hlocks, hret, hini, hK, hQ, rfl⟩ := X
  intro hk0 hn0 H locs ls hH hL hl
  obtain ⟨hb0, hc⟩ := hH.arrR hty
  exact va_aldq (D := G.D) (cl := vwCl) hx hb hK.1 (sp_P1 (e := .inl (G.Y.2.2.2, m.ln a, .inr (.inr (.inr (.inr (m.aR a)))))) hc) 0 3 rfl rfl hin hdg (kk hk0 hn0 H locs ls hH hL hl)
theorem sp_arraylength (X : sp_X l G own cc nL init ret R Qo w) {r : Option Nat} {a : Nat} (hr : r = some a) (hty : m.ty a = 20 ∨ m.ty a = 21 ∨ m.ty a = 22 ∨ m.ty a = 23 ∨ m.ty a = 24 ∨ m.ty a = 25) (hdg : decode cc pc = .ok (.arraylength, 1)) (kk : w k n m (pc + 1) lv (.int (Int32.ofNat (m.ln a)) :: rest)) : w k n m pc lv (va_rf r :: rest) := by
  subst hr
  obtain ⟨p, e, s, mm, args, below, meth, cd, Q, hx, hb, hml, hown, hlocks, hret, hini, hK, hQ, rfl⟩ := X
  intro hk0 hn0 H locs ls hH hL hl
  rcases hty with hty | hty | hty | hty | hty | hty
  · exact va_alen (D := G.D) (cl := vwCl) hx hb hK.1 (sp_P1 (e := .inl (G.Y.1, m.ln a, .inl (m.aI a))) (hH.arrI hty).2) 0 0 rfl rfl rfl hdg (kk hk0 hn0 H locs ls hH hL hl)
  · exact va_alen (D := G.D) (cl := vwCl) hx hb hK.1 (sp_P1 (e := .inl (G.Y.2.1, m.ln a, .inr (.inl (m.aL a)))) (hH.arrL hty).2) 0 1 rfl rfl rfl hdg (kk hk0 hn0 H locs ls hH hL hl)
  · exact va_alen (D := G.D) (cl := vwCl) hx hb hK.1 (sp_P1 (e := .inl (G.Y.2.2.1, m.ln a, .inl (m.aI a))) (hH.arrZ hty).2) 0 2 rfl rfl rfl hdg (kk hk0 hn0 H locs ls hH hL hl)
  · exact va_alen (D := G.D) (cl := vwCl) hx hb hK.1 (sp_P1 (e := .inl (G.Y.2.2.2, m.ln a, .inr (.inr (.inr (.inr (m.aR a)))))) (hH.arrR hty).2) 0 3 rfl rfl rfl hdg (kk hk0 hn0 H locs ls hH hL hl)
  · obtain ⟨h1, h2, h3, h4, h5⟩ := hH.old (a := a) (by omega)
    obtain ⟨scr, g1, g2, g3, g4, g5⟩ := (hK.2.2.1 a).1 (by rw [← h2]; exact hty)
    exact W.alen hx hb (by rw [h5]; exact g1) g2 (by rw [g4, ← h3]) rfl rfl hdg (kk hk0 hn0 H locs ls hH hL hl)
  · obtain ⟨h1, h2, h3, h4, h5⟩ := hH.old (a := a) (by omega)
    obtain ⟨scr, g1, g2, g3, g4⟩ := (hK.2.2.1 a).2 (by rw [← h2]; exact hty)
    exact W.alen hx hb (by rw [h5]; exact g1) g2 (by rw [g4, ← h3]) rfl rfl hdg (kk hk0 hn0 H locs ls hH hL hl)
theorem sp_e_sI {y : sp_Y} {a b j : Nat} {v : Int32} (hb : b ≠ a) : sp_e y (m.sI a j v) b = sp_e y m b := by
  have h1 : (m.sI a j v).aI b = m.aI b := by
    funext i
    rw [sp_sI_aI, if_neg (by rintro ⟨h, -⟩; exact hb h)]
  unfold sp_e
  rw [h1]
  rfl
theorem sp_e_sL {y : sp_Y} {a b j : Nat} {v : Int64} (hb : b ≠ a) : sp_e y (m.sL a j v) b = sp_e y m b := by
  have h1 : (m.sL a j v).aL b = m.aL b := by
    funext i
    rw [sp_sL_aL, if_neg (by rintro ⟨h, -⟩; exact hb h)]
  unfold sp_e
  rw [h1]
  rfl
theorem sp_e_sR {y : sp_Y} {a b j : Nat} {v : Option Nat} (hb : b ≠ a) : sp_e y (m.sR a j v) b = sp_e y m b := by
  have h1 : (m.sR a j v).aR b = m.aR b := by
    funext i
    rw [sp_sR_aR, if_neg (by rintro ⟨h, -⟩; exact hb h)]
  unfold sp_e
  rw [h1]
  rfl
theorem sp_e_arrI {y : sp_Y} {a : Nat} (ha : m.ty a = 20) : sp_e y m a = .inl (y.1, m.ln a, .inl (m.aI a)) := by
  unfold sp_e
  rw [if_pos ha]
theorem sp_e_arrL {y : sp_Y} {a : Nat} (ha : m.ty a = 21) : sp_e y m a = .inl (y.2.1, m.ln a, .inr (.inl (m.aL a))) := by
  unfold sp_e
  rw [if_neg (by omega), if_pos ha]
theorem sp_e_arrZ {y : sp_Y} {a : Nat} (ha : m.ty a = 22) : sp_e y m a = .inl (y.2.2.1, m.ln a, .inl (m.aI a)) := by
  unfold sp_e
  rw [if_neg (by omega), if_neg (by omega), if_pos ha]
theorem sp_e_arrR {y : sp_Y} {a : Nat} (ha : m.ty a = 23) : sp_e y m a = .inl (y.2.2.2, m.ln a, .inr (.inr (.inr (.inr (m.aR a))))) := by
  unfold sp_e
  rw [if_neg (by omega), if_neg (by omega), if_neg (by omega), if_pos ha]
theorem sp_iastore (X : sp_X l G own cc nL init ret R Qo w) {r : Option Nat} {a : Nat} {j x : Int32} (hr : r = some a) (hty : m.ty a = 20) (hin : vp_in j (m.ln a)) (hdg : decode cc pc = .ok (.iastore, 1)) (kk : w k n (m.sI a j.toNatClampNeg x) (pc + 1) lv rest) : w k n m pc lv (.int x :: .int j :: va_rf r :: rest) := by
  subst hr
  obtain ⟨p, e, s, mm, args, below, meth, cd, Q, hx, hb, hml, hown, hlocks, hret, hini, hK, hQ, rfl⟩ := X
  intro hk0 hn0 H locs ls hH hL hl
  obtain ⟨hb0, hc⟩ := hH.arrI hty
  refine W.iast hx hb hc ((hK.1.2 0 _ rfl).1 _ (fun i => .int (m.aI a i))) (fun q => by cases q) (by show ¬ (j < 0 ∨ (arrV _ _ _).slots.size ≤ _); rw [arrV_size]; exact hin) rfl rfl hdg fun H1 e1 z oq => ?_
  refine kk hk0 hn0 H1 _ ls (hH.upd z oq hb0 rfl rfl rfl (fun b hb => ?_) (fun b hb => sp_e_sI hb) ?_) (sp_cons _ hL hb0) hl
  · funext i
    rw [sp_sI_aI, if_neg (by rintro ⟨h, -⟩; exact hb h)]
  · rw [sp_e_arrI (m := m.sI a j.toNatClampNeg x) hty]
    show H1[a]? = some (vp_cell _ _)
    rw [e1, vp_cell_i, vp_cell_i, arrV_store]
    congr 2
    funext q
    by_cases hq : q = j.toNatClampNeg
    · subst hq
      simp [updV, sp_sI_aI]
    · simp [updV, sp_sI_aI, hq]
theorem sp_lastore (X : sp_X l G own cc nL init ret R Qo w) {r : Option Nat} {a : Nat} {j : Int32} {x : Int64} (hr : r = some a) (hty : m.ty a = 21) (hin : vp_in j (m.ln a)) (hdg : decode cc pc = .ok (.lastore, 1)) (kk : w k n (m.sL a j.toNatClampNeg x) (pc + 1) lv rest) : w k n m pc lv (.long x :: .int j :: va_rf r :: rest) := by
  subst hr
  obtain ⟨p, e, s, mm, args, below, meth, cd, Q, hx, hb, hml, hown, hlocks, hret, hini, hK, hQ, rfl⟩ := X
  intro hk0 hn0 H locs ls hH hL hl
  obtain ⟨hb0, hc⟩ := hH.arrL hty
  refine W.last hx hb hc ((hK.1.2 1 _ rfl).1 _ (fun i => .long (m.aL a i))) (fun q => by cases q) (by show ¬ (j < 0 ∨ (arrV _ _ _).slots.size ≤ _); rw [arrV_size]; exact hin) rfl rfl hdg fun H1 e1 z oq => ?_
  refine kk hk0 hn0 H1 _ ls (hH.upd z oq hb0 rfl rfl rfl (fun b hb => rfl) (fun b hb => sp_e_sL hb) ?_) (sp_cons _ hL hb0) hl
  rw [sp_e_arrL (m := m.sL a j.toNatClampNeg x) hty]
  show H1[a]? = some (vp_cell _ _)
  rw [e1, vp_cell_l, vp_cell_l, arrV_store]
  congr 2
  funext q
  by_cases hq : q = j.toNatClampNeg
  · subst hq
    simp [updV, sp_sL_aL]
  · simp [updV, sp_sL_aL, hq]
theorem sp_bastore (X : sp_X l G own cc nL init ret R Qo w) {r : Option Nat} {a : Nat} {j x : Int32} (hr : r = some a) (hty : m.ty a = 22) (hin : vp_in j (m.ln a)) (hnar : narrow .boolean (.int x) = .int x) (hdg : decode cc pc = .ok (.bastore, 1)) (kk : w k n (m.sI a j.toNatClampNeg x) (pc + 1) lv rest) : w k n m pc lv (.int x :: .int j :: va_rf r :: rest) := by
  subst hr
  obtain ⟨p, e, s, mm, args, below, meth, cd, Q, hx, hb, hml, hown, hlocks, hret, hini, hK, hQ, rfl⟩ := X
  intro hk0 hn0 H locs ls hH hL hl
  obtain ⟨hb0, hc⟩ := hH.arrZ hty
  refine W.zast hx hb hc ((hK.1.2 2 _ rfl).1 _ (fun i => .int (m.aI a i))) (fun q => by cases q) (by show ¬ (j < 0 ∨ (arrV _ _ _).slots.size ≤ _); rw [arrV_size]; exact hin) rfl rfl hdg fun H1 e1 z oq => ?_
  refine kk hk0 hn0 H1 _ ls (hH.upd z oq hb0 rfl rfl rfl (fun b hb => ?_) (fun b hb => sp_e_sI hb) ?_) (sp_cons _ hL hb0) hl
  · funext i
    rw [sp_sI_aI, if_neg (by rintro ⟨h, -⟩; exact hb h)]
  · rw [sp_e_arrZ (m := m.sI a j.toNatClampNeg x) hty]
    show H1[a]? = some (vp_cell _ _)
    rw [e1, hnar, vp_cell_i, vp_cell_i, arrV_store]
    congr 2
    funext q
    by_cases hq : q = j.toNatClampNeg
    · subst hq
      simp [updV, sp_sI_aI]
    · simp [updV, sp_sI_aI, hq]
theorem sp_aastore (X : sp_X l G own cc nL init ret R Qo w) {r v : Option Nat} {a : Nat} {j : Int32} (hr : r = some a) (hty : m.ty a = 23) (hin : vp_in j (m.ln a)) (hv : ∀ b, v = some b → ∃ c, m.ty b = c + 1 ∧ c < 14 ∧ Cond.castable (sp_Cn c) "java/lang/Object" ∈ lw_tbl) (hdg : decode cc pc = .ok (.aastore, 1)) (kk : w k n (m.sR a j.toNatClampNeg v) (pc + 1) lv rest) : w k n m pc lv (va_rf v :: .int j :: va_rf r :: rest) := by
  subst hr
  obtain ⟨p, e, s, mm, args, below, meth, cd, Q, hx, hb, hml, hown, hlocks, hret, hini, hK, hQ, rfl⟩ := X
  intro hk0 hn0 H locs ls hH hL hl
  obtain ⟨hb0, hc⟩ := hH.arrR hty
  have hlt : j.toNatClampNeg < m.ln a := sp_inlt hin
  have h0 : ¬ j < 0 := fun q => hin (Or.inl q)
  have fin : ∀ H1 : Heap, H1[a]? = some ((vp_cell G.Y.2.2.2 (m.ln a, .inr (.inr (.inr (.inr (m.aR a)))))).setSlot j.toNatClampNeg (va_rf v)) → H1.size = H.size → (∀ q, q ≠ a → H1[q]? = H[q]?) → sp_H G (m.sR a j.toNatClampNeg v) H1 := fun H1 e1 z oq => by
    refine hH.upd z oq hb0 rfl rfl rfl (fun b hb => rfl) (fun b hb => sp_e_sR hb) ?_
    rw [sp_e_arrR (m := m.sR a j.toNatClampNeg v) hty]
    show H1[a]? = some (vp_cell _ _)
    rw [e1, vp_cell_q, vp_cell_q, arrV_store]
    congr 2
    funext q
    by_cases hq : q = j.toNatClampNeg
    · subst hq
      simp [updV, sp_sR_aR]
    · simp [updV, sp_sR_aR, hq]
  cases v with
  | none =>
    refine va_WaastN (C := "java/lang/Object") hx hb hc ((hK.1.2 3 _ rfl).1 _ (fun i => va_rf (m.aR a i))) (fun h => by cases h) (by show ¬ (j < 0 ∨ (arrV _ _ _).slots.size ≤ _); rw [arrV_size]; exact hin) rfl rfl hdg fun H1 e1 z oq => ?_
    exact kk hk0 hn0 H1 _ ls (fin H1 e1 z oq) (sp_cons _ hL hb0) hl
  | some b =>
    obtain ⟨ci, hb1, hb2, hca⟩ := hv b rfl
    obtain ⟨hb3, cellV, g1, g2, g3, -⟩ := hH.obj hb1 hb2
    have hcls := (hK.1.1 ci _ (sp_cl_get hb2)).2
    obtain ⟨kA, comp, k1, k2, k3, -⟩ := (hK.1.2 3 _ rfl).2
    obtain ⟨kE, hkE, -⟩ := Vm.findClass_spec k3
    obtain ⟨c0, t1, f1, f2, f3⟩ := Cond.castable_spec (hK.w hca rfl args)
    cases hcls.1.symm.trans f1
    cases k3.symm.trans f2
    obtain ⟨kC, hkC, -⟩ := hcls.2
    refine W.aast hx hb hc (fun q h => by cases h) (fun h => by cases h) k1 k2 rfl hkE ⟨h0, by show _ < (arrV _ _ _).slots.size; rw [arrV_size]; exact hlt⟩ g1 (fun q h => by rw [g3] at h; cases h) (by rw [g2]; exact hkC) (by rw [g2]; exact f3) rfl rfl hdg fun H1 e1 z oq => ?_
    exact kk hk0 hn0 H1 _ ls (fin H1 e1 z oq) (sp_cons _ hL hb0) hl
end SPA
