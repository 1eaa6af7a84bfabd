
/-- a reference array's elements are written all at once -/
def sp_M.wR (m : sp_M) (a : Nat) (f : Nat → Option Nat) : sp_M := (m.nx, m.ty, m.ln, m.fI, m.fL, m.fR, m.aI, m.aL, fun b j => if b = a then f j else m.aR b j)
/-- a ghost: the number beside an object's address (the machine has none) -/
def sp_M.gh (m : sp_M) (a v : Nat) : sp_M := (m.nx, m.ty, fun b => if b = a then v else m.ln b, m.fI, m.fL, m.fR, m.aI, m.aL, m.aR)
theorem sp_wR_aR (m : sp_M) (a : Nat) (f : Nat → Option Nat) (b j : Nat) : (m.wR a f).aR b j = if b = a then f j else m.aR b j := rfl
theorem sp_gh_ln (m : sp_M) (a v b : Nat) : (m.gh a v).ln b = if b = a then v else m.ln b := rfl
theorem ac_1 : Cond.native arraycopyName ∈ lw_tbl := List.mem_of_getElem? (i := 324) (by decide +kernel)
theorem ac_2 : Cond.static arraycopyName ∈ lw_tbl := List.mem_of_getElem? (i := 323) (by decide +kernel)
theorem ac_3 : Cond.initialized "java/lang/System" ∈ lw_tbl := List.mem_of_getElem? (i := 70) (by decide +kernel)
theorem ac_4 : Cond.methodLink "java/util/Arrays" 150 arraycopyName ∈ lw_tbl := List.mem_of_getElem? (i := 322) (by decide +kernel)
theorem gc_1 : Cond.methodLink "java/util/Arrays" 86 ⟨"java/lang/Object", "getClass", "()Ljava/lang/Class;"⟩ ∈ lw_tbl := List.mem_of_getElem? (i := 297) (by decide +kernel)
theorem gc_2 : Cond.declares ⟨"java/lang/Object", "getClass", "()Ljava/lang/Class;"⟩ ∈ lw_tbl := List.mem_of_getElem? (i := 1381) (by decide +kernel)
theorem gc_3 : Cond.instanceMethod ⟨"java/lang/Object", "getClass", "()Ljava/lang/Class;"⟩ ∈ lw_tbl := List.mem_of_getElem? (i := 298) (by decide +kernel)
theorem gc_4 : Cond.native ⟨"java/lang/Object", "getClass", "()Ljava/lang/Class;"⟩ ∈ lw_tbl := List.mem_of_getElem? (i := 314) (by decide +kernel)
theorem gc_5 : Cond.selects "[Ljava/lang/Object;" ⟨"java/lang/Object", "getClass", "()Ljava/lang/Class;"⟩ ⟨"java/lang/Object", "getClass", "()Ljava/lang/Class;"⟩ ∈ lw_tbl := List.mem_of_getElem? (i := 1380) (by decide +kernel)
section SPL
variable {l : Launch} {G : sp_G} {own : String} {cc : ByteArray} {nL : Nat} {init : Bool} {ret : Option FieldType} {R : Room} {Qo : Option (Option Value → sp_M → Prop)} {w : sp_T}
variable {k n : Nat} {m : sp_M} {pc : Nat} {lv : sp_L} {rest st : List Value}
theorem sp_e_gh {y : sp_Y} {a v b : Nat} (ha : m.ty a < 15) : sp_e y (m.gh a v) b = sp_e y m b := by
  by_cases hb : b = a
  · subst hb
    unfold sp_e
    rw [if_neg (by show ¬ m.ty b = 20; omega), if_neg (by show ¬ m.ty b = 21; omega), if_neg (by show ¬ m.ty b = 22; omega), if_neg (by show ¬ m.ty b = 23; omega), if_neg (by omega), if_neg (by omega), if_neg (by omega), if_neg (by omega)]
    rfl
  · unfold sp_e
    rw [sp_gh_ln, if_neg hb]
    rfl
theorem sp_ghost (X : sp_X l G own cc nL init ret R Qo w) (a v : Nat) (ha : m.ty a < 15) (ha0 : m.ty a ≠ 0) (kk : w k n (m.gh a v) pc lv st) : w k n m pc lv st := by
  obtain ⟨p, e, s, mm, args, below, meth, cd, Q, hx, hb, hml, hown, hlocks, hret, hini, hK, hQ, rfl⟩ := X
  intro hk0 hn0 H locs ls hH hL hl
  refine kk hk0 hn0 H locs ls ⟨hH.1, hH.2.1, hH.2.2.1, fun b hb => ?_⟩ hL hl
  rcases hH.2.2.2 b hb with g | g
  · left
    refine ⟨g.1, g.2.1, g.2.2.1, ?_, g.2.2.2.2⟩
    rw [sp_gh_ln, if_neg]
    · exact g.2.2.2.1
    · intro hba
      subst hba
      have := g.2.1
      omega
  · right
    refine ⟨g.1, g.2.1, ?_⟩
    rw [sp_e_gh ha]
    exact g.2.2
theorem sp_ldcM (X : sp_X l G own cc nL init ret R Qo w) {idx : Nat} (hcl : Cond.classLink own idx "[Ljava/lang/Object;" ∈ lw_tbl) (hdg : decode cc pc = .ok (.ldc idx, 2)) (kk : w k n m (pc + 2) lv (va_rf (some G.mi) :: rest)) : w k n m pc lv rest := by
  obtain ⟨p, e, s, mm, args, below, meth, cd, Q, hx, hb, hml, hown, hlocks, hret, hini, hK, hQ, rfl⟩ := X
  intro hk0 hn0 H locs ls hH hL hl
  exact va_ldcM hx hb hown (hK.w hcl rfl _) hK.2.2.2.2.2.2.1 hdg (kk hk0 hn0 H locs ls hH hL hl)
theorem sp_getC (X : sp_X l G "java/util/Arrays" cc nL init ret R Qo w) {r : Option Nat} {a : Nat} (hr : r = some a) (hty : m.ty a = 23) (hf : 1 ≤ R.frames) (hlo : (rest.map fun v => v.category).sum + 14 ≤ R.locals) (hdg : decode cc pc = .ok (.invokevirtual 86, 3)) (kk : w k n m (pc + 3) lv (va_rf (some G.mi) :: rest)) : w k n m pc lv (va_rf r :: rest) := by
  subst hr
  obtain ⟨p, e, s, mm, args, below, meth, cd, Q, hx, hb, hml, hown, hlocks, hret, hini, hK, hQ, rfl⟩ := X
  intro hk0 hn0 H locs ls hH hL hl
  refine va_getC hx hb (by rw [hml]; exact hl.1.1.symm) hown (hK.w gc_1 rfl _) (hK.w gc_2 rfl _) (hK.w gc_5 rfl _) (hK.w gc_3 rfl _) (hK.w gc_4 rfl _) hK.2.2.2.2.2.2.1 ?_ hf hlo hdg (kk hk0 hn0 H locs ls hH hL hl)
  refine ⟨_, (hH.arrR hty).2, rfl, ?_⟩
  obtain ⟨kA, comp, g1, g2, g3, g4⟩ := (hK.1.2 3 _ rfl).2
  exact g4
theorem sp_acopy (X : sp_X l G "java/util/Arrays" cc nL init ret R Qo w) {r0 r1 : Option Nat} {a0 a : Nat} {sp dp z : Int32} (hr0 : r0 = some a0) (hr1 : r1 = some a) (hty0 : m.ty a0 = 23) (hty1 : m.ty a = 23) (hne : a ≠ a0) (h1 : ¬ sp < 0) (h2 : ¬ dp < 0) (h3 : ¬ z < 0) (h4 : sp.toNatClampNeg + z.toNatClampNeg ≤ m.ln a0) (h5 : dp.toNatClampNeg + z.toNatClampNeg ≤ m.ln a)
    (hel : ∀ i : Nat, i < z.toNatClampNeg → ∀ y : Nat, m.aR a0 (sp.toNatClampNeg + i) = some y → ∃ c, m.ty y = c + 1 ∧ c < 14 ∧ Cond.castable (sp_Cn c) "java/lang/Object" ∈ lw_tbl) (hf : 1 ≤ R.frames) (hlo : (rest.map fun v => v.category).sum + (nativeFrameWords "java/lang/System" "arraycopy" 5 + 11) ≤ R.locals) (hdg : decode cc pc = .ok (.invokestatic 150, 3))
    (kk : w k n (m.wR a (va_cpy (m.aR a0) (m.aR a) sp.toNatClampNeg dp.toNatClampNeg z.toNatClampNeg)) (pc + 3) lv rest) : w k n m pc lv (.int z :: .int dp :: va_rf r1 :: .int sp :: va_rf r0 :: rest) := by
  subst hr0
  subst hr1
  obtain ⟨p, e, s, mm, args, below, meth, cd, Q, hx, hb, hml, hown, hlocks, hret, hini, hK, hQ, rfl⟩ := X
  intro hk0 hn0 H locs ls hH hL hl
  have nn : ∀ z : Int32, ¬ z < 0 → z.toInt = (z.toNatClampNeg : Int) := by
    intro z hz
    have hz0 : (0 : Int) ≤ z.toInt := by
      have := Int32.not_lt.mp hz
      simpa using Int32.le_iff_toInt_le.mp this
    show z.toInt = ((z.toInt.toNat : Nat) : Int)
    omega
  obtain ⟨hb0, hc0⟩ := hH.arrR hty0
  obtain ⟨hb1, hc1⟩ := hH.arrR hty1
  intro T hT X
  obtain ⟨-, k0, hkk0, cm0, hkkk0⟩ := (hK.1.2 3 _ rfl).1 (m.ln a0) (fun j => va_rf (m.aR a0 j))
  obtain ⟨-, k1, hkk1, cm1, hkkk1⟩ := (hK.1.2 3 _ rfl).1 (m.ln a) (fun j => va_rf (m.aR a j))
  obtain ⟨vm', X', step⟩ := X.arraycopy hx hown (hK.w ac_4 rfl _) (hK.w ac_1 rfl _) (hK.w ac_2 rfl _) (hK.w ac_3 rfl _) (src := a0) (dst := a) (cs := vp_cell G.Y.2.2.2 (m.ln a0, .inr (.inr (.inr (.inr (m.aR a0)))))) (cd := vp_cell G.Y.2.2.2 (m.ln a, .inr (.inr (.inr (.inr (m.aR a)))))) (srcPos := sp) (destPos := dp) (n := z) (by rw [hT]; exact hc0) (by rw [hT]; exact hc1)
    (fun _ h => by cases h) (fun _ h => by cases h) (fun h => by cases h) (fun h => by cases h) hkk0 hkk1 hkkk0 hkkk1 rfl h1 h2 h3
    (by rw [nn sp h1, nn z h3]; show ¬ _ > ((arrV _ (m.ln a0) (fun j => va_rf (m.aR a0 j))).slots.size : Int); rw [arrV_size]; omega)
    (by rw [nn dp h2, nn z h3]; show ¬ _ > ((arrV _ (m.ln a) (fun j => va_rf (m.aR a j))).slots.size : Int); rw [arrV_size]; omega)
    (fun vm₁ hal i hi => by
      have e : (vp_cell G.Y.2.2.2 (m.ln a0, .inr (.inr (.inr (.inr (m.aR a0)))))).slots.getD (sp.toNatClampNeg + i) .null = va_rf (m.aR a0 (sp.toNatClampNeg + i)) := by
        show (arrV _ (m.ln a0) (fun j => va_rf (m.aR a0 j))).slots.getD _ _ = _
        rw [Array.getD_eq_getD_getElem?, arrV_read _ _ (by omega)]
        rfl
      rw [e]
      cases hy : m.aR a0 (sp.toNatClampNeg + i) with
      | none => exact ⟨rfl, trivial⟩
      | some y =>
        obtain ⟨ci, hb1', hb2, hca⟩ := hel i hi y hy
        obtain ⟨hb3, cellV, g1, g2, g3, -⟩ := hH.obj hb1' hb2
        have hcls := (hK.1.1 ci _ (sp_cl_get hb2)).2
        obtain ⟨c0, t1, f1, f2, f3⟩ := Cond.castable_spec (hK.w hca rfl args)
        cases hcls.1.symm.trans f1
        obtain ⟨kC, hkC, -⟩ := hcls.2
        obtain ⟨kA, comp, r1, r2, r3, -⟩ := (hK.1.2 3 _ rfl).2
        cases hkk1.symm.trans r1
        cases hkkk1.symm.trans r2
        cases r3.symm.trans f2
        obtain ⟨kE, hkE, -⟩ := Vm.findClass_spec r3
        obtain ⟨kC', hkC', -⟩ := hal.2.2 _ _ hkC
        obtain ⟨kE', hkE', -⟩ := hal.2.2 _ _ hkE
        refine ⟨rfl, cellV, (show T.heap[y]? = some cellV by rw [hT]; exact g1), (fun q h => by rw [g3] at h; cases h), ⟨kC', by rw [g2]; exact hkC'⟩, ?_, ?_⟩
        · exact ⟨kE', hkE'⟩
        · show vm₁.assignable _ _ = true
          rw [hal.assignable, g2]
          exact f3)
    (g := F0 mm pc ls (.int z :: .int dp :: .ref a :: .int sp :: .ref a0 :: rest)) rfl (by rw [hml]; exact hl.1.1) (rest := rest) rfl (by rw [hb]; exact hdg) hf (by show 2 * 0 + _ + _ ≤ _; omega)
  have e1 : copied (vp_cell G.Y.2.2.2 (m.ln a0, .inr (.inr (.inr (.inr (m.aR a0)))))) (vp_cell G.Y.2.2.2 (m.ln a, .inr (.inr (.inr (.inr (m.aR a)))))) sp dp z = vp_cell G.Y.2.2.2 (m.ln a, .inr (.inr (.inr (.inr (va_cpy (m.aR a0) (m.aR a) sp.toNatClampNeg dp.toNatClampNeg z.toNatClampNeg))))) := by
    rw [vp_cell_q, vp_cell_q, vp_cell_q]
    exact va_copied (fun z => va_rf z) _ _ (m.aR a0) (m.aR a) h4
  rw [e1] at X' step
  have hl9 : a < H.size := (Array.getElem?_eq_some_iff.mp hc1).1
  generalize hnew : vp_cell G.Y.2.2.2 (m.ln a, .inr (.inr (.inr (.inr (va_cpy (m.aR a0) (m.aR a) sp.toNatClampNeg dp.toNatClampNeg z.toNatClampNeg))))) = cnew at X' step
  have hheap : ((T.setVm vm').setCell a cnew).heap = H.setIfInBounds a cnew := by rw [← hT]; rfl
  have oq : ∀ q : Nat, q ≠ a → (H.setIfInBounds a cnew)[q]? = H[q]? := fun q hq => by simp [Array.getElem?_setIfInBounds, Ne.symm hq]
  obtain ⟨t, a1, b1⟩ := kk hk0 hn0 (H.setIfInBounds a cnew) _ ls (hH.upd (a := a) (by simp) oq hb1 rfl rfl rfl (fun b hb => rfl) (fun b hb => by
      have h9 : (m.wR a (va_cpy (m.aR a0) (m.aR a) sp.toNatClampNeg dp.toNatClampNeg z.toNatClampNeg)).aR b = m.aR b := by
        funext j
        rw [sp_wR_aR, if_neg hb]
      unfold sp_e
      rw [h9]
      rfl) (by
      rw [sp_e_arrR (m := m.wR a (va_cpy (m.aR a0) (m.aR a) sp.toNatClampNeg dp.toNatClampNeg z.toNatClampNeg)) hty1]
      show (H.setIfInBounds a cnew)[a]? = some (vp_cell _ _)
      rw [← hnew]
      simp only [Array.getElem?_setIfInBounds, if_true, hl9]
      congr 3
      have h9 : (m.wR a (va_cpy (m.aR a0) (m.aR a) sp.toNatClampNeg dp.toNatClampNeg z.toNatClampNeg)).aR a = va_cpy (m.aR a0) (m.aR a) sp.toNatClampNeg dp.toNatClampNeg z.toNatClampNeg := by
        funext j
        rw [sp_wR_aR, if_pos rfl]
      rw [h9])) (fun q hq => by
      rcases List.mem_append.mp hq with h | h
      · exact hL q h
      · obtain ⟨z, -, hz⟩ := List.mem_map.mp h
        rw [← hz]
        exact hb1) hl _ hheap X'
  exact ⟨t, step t a1, b1⟩
end SPL
