
/-! FRAMES AND NEW OBJECTS -/
/-- what may be written of the cells that were there: int, long, reference fields (key, address), rows -/
abbrev sp_W : Type := (Nat → Nat → Prop) × (Nat → Nat → Prop) × (Nat → Nat → Prop) × (Nat → Prop)
def sp_fx (m m' : sp_M) (w : sp_W) : Prop := m.nx ≤ m'.nx ∧ (∀ a, a < m.nx → m'.ty a = m.ty a ∧ m'.ln a = m.ln a) ∧ (∀ k a, a < m.nx → ¬ w.1 k a → m'.fI k a = m.fI k a) ∧ (∀ k a, a < m.nx → ¬ w.2.1 k a → m'.fL k a = m.fL k a) ∧ (∀ k a, a < m.nx → ¬ w.2.2.1 k a → m'.fR k a = m.fR k a) ∧ (∀ a, a < m.nx → ¬ w.2.2.2 a → m'.aI a = m.aI a ∧ m'.aL a = m.aL a ∧ m'.aR a = m.aR a)
def sp_w0 : sp_W := (fun _ _ => False, fun _ _ => False, fun _ _ => False, fun _ => False)
theorem sp_fx.refl (m : sp_M) (w : sp_W) : sp_fx m m w := ⟨Nat.le_refl _, fun _ _ => ⟨rfl, rfl⟩, fun _ _ _ _ => rfl, fun _ _ _ _ => rfl, fun _ _ _ _ => rfl, fun _ _ _ => ⟨rfl, rfl, rfl⟩⟩
theorem sp_fx.trans {m m1 m2 : sp_M} {w w' : sp_W} (h : sp_fx m m1 w) (h' : sp_fx m1 m2 w') (c1 : ∀ k a, a < m.nx → w'.1 k a → w.1 k a) (c2 : ∀ k a, a < m.nx → w'.2.1 k a → w.2.1 k a) (c3 : ∀ k a, a < m.nx → w'.2.2.1 k a → w.2.2.1 k a) (c4 : ∀ a, a < m.nx → w'.2.2.2 a → w.2.2.2 a) : sp_fx m m2 w := by
  obtain ⟨a1, a2, a3, a4, a5, a6⟩ := h
  obtain ⟨b1, b2, b3, b4, b5, b6⟩ := h'
  refine ⟨Nat.le_trans a1 b1, fun a ha => ?_, fun k a ha hw => ?_, fun k a ha hw => ?_, fun k a ha hw => ?_, fun a ha hw => ?_⟩
  · have q := b2 a (by omega)
    have r := a2 a ha
    exact ⟨q.1.trans r.1, q.2.trans r.2⟩
  · exact (b3 k a (by omega) (fun z => hw (c1 k a ha z))).trans (a3 k a ha hw)
  · exact (b4 k a (by omega) (fun z => hw (c2 k a ha z))).trans (a4 k a ha hw)
  · exact (b5 k a (by omega) (fun z => hw (c3 k a ha z))).trans (a5 k a ha hw)
  · have q := b6 a (by omega) (fun z => hw (c4 a ha z))
    have r := a6 a ha hw
    exact ⟨q.1.trans r.1, q.2.1.trans r.2.1, q.2.2.trans r.2.2⟩
theorem sp_fx.tr0 {m m1 m2 : sp_M} {w : sp_W} (h : sp_fx m m1 w) (h' : sp_fx m1 m2 sp_w0) : sp_fx m m2 w := h.trans h' (fun _ _ _ z => z.elim) (fun _ _ _ z => z.elim) (fun _ _ _ z => z.elim) (fun _ _ z => z.elim)
theorem sp_fx.mono {m m1 : sp_M} {w w' : sp_W} (h : sp_fx m m1 w') (c1 : ∀ k a, a < m.nx → w'.1 k a → w.1 k a) (c2 : ∀ k a, a < m.nx → w'.2.1 k a → w.2.1 k a) (c3 : ∀ k a, a < m.nx → w'.2.2.1 k a → w.2.2.1 k a) (c4 : ∀ a, a < m.nx → w'.2.2.2 a → w.2.2.2 a) : sp_fx m m1 w := (sp_fx.refl m w).trans h c1 c2 c3 c4
theorem sp_fx.pI {m m1 : sp_M} {w : sp_W} (h : sp_fx m m1 w) {k a : Nat} {v : Int32} (hw : w.1 k a ∨ m.nx ≤ a) : sp_fx m (m1.pI k a v) w := by
  obtain ⟨a1, a2, a3, a4, a5, a6⟩ := h
  refine ⟨a1, a2, fun j b hb hn => ?_, a4, a5, a6⟩
  rw [sp_pI_fI, if_neg]
  · exact a3 j b hb hn
  · rintro ⟨rfl, rfl⟩
    rcases hw with z | z
    · exact hn z
    · omega
theorem sp_fx.pL {m m1 : sp_M} {w : sp_W} (h : sp_fx m m1 w) {k a : Nat} {v : Int64} (hw : w.2.1 k a ∨ m.nx ≤ a) : sp_fx m (m1.pL k a v) w := by
  obtain ⟨a1, a2, a3, a4, a5, a6⟩ := h
  refine ⟨a1, a2, a3, fun j b hb hn => ?_, a5, a6⟩
  rw [sp_pL_fL, if_neg]
  · exact a4 j b hb hn
  · rintro ⟨rfl, rfl⟩
    rcases hw with z | z
    · exact hn z
    · omega
theorem sp_fx.pR {m m1 : sp_M} {w : sp_W} (h : sp_fx m m1 w) {k a : Nat} {v : Option Nat} (hw : w.2.2.1 k a ∨ m.nx ≤ a) : sp_fx m (m1.pR k a v) w := by
  obtain ⟨a1, a2, a3, a4, a5, a6⟩ := h
  refine ⟨a1, a2, a3, a4, fun j b hb hn => ?_, a6⟩
  rw [sp_pR_fR, if_neg]
  · exact a5 j b hb hn
  · rintro ⟨rfl, rfl⟩
    rcases hw with z | z
    · exact hn z
    · omega
theorem sp_fx.sI {m m1 : sp_M} {w : sp_W} (h : sp_fx m m1 w) {a j : Nat} {v : Int32} (hw : w.2.2.2 a ∨ m.nx ≤ a) : sp_fx m (m1.sI a j v) w := by
  obtain ⟨a1, a2, a3, a4, a5, a6⟩ := h
  refine ⟨a1, a2, a3, a4, a5, fun b hb hn => ?_⟩
  have r := a6 b hb hn
  refine ⟨?_, r.2.1, r.2.2⟩
  rw [← r.1]
  funext i
  rw [sp_sI_aI, if_neg]
  rintro ⟨rfl, -⟩
  rcases hw with z | z
  · exact hn z
  · omega
theorem sp_fx.sL {m m1 : sp_M} {w : sp_W} (h : sp_fx m m1 w) {a j : Nat} {v : Int64} (hw : w.2.2.2 a ∨ m.nx ≤ a) : sp_fx m (m1.sL a j v) w := by
  obtain ⟨a1, a2, a3, a4, a5, a6⟩ := h
  refine ⟨a1, a2, a3, a4, a5, fun b hb hn => ?_⟩
  have r := a6 b hb hn
  refine ⟨r.1, ?_, r.2.2⟩
  rw [← r.2.1]
  funext i
  rw [sp_sL_aL, if_neg]
  rintro ⟨rfl, -⟩
  rcases hw with z | z
  · exact hn z
  · omega
theorem sp_fx.sR {m m1 : sp_M} {w : sp_W} (h : sp_fx m m1 w) {a j : Nat} {v : Option Nat} (hw : w.2.2.2 a ∨ m.nx ≤ a) : sp_fx m (m1.sR a j v) w := by
  obtain ⟨a1, a2, a3, a4, a5, a6⟩ := h
  refine ⟨a1, a2, a3, a4, a5, fun b hb hn => ?_⟩
  have r := a6 b hb hn
  refine ⟨r.1, r.2.1, ?_⟩
  rw [← r.2.2]
  funext i
  rw [sp_sR_aR, if_neg]
  rintro ⟨rfl, -⟩
  rcases hw with z | z
  · exact hn z
  · omega
theorem sp_fx.newO {m m1 : sp_M} {w : sp_W} (h : sp_fx m m1 w) (c : Nat) : sp_fx m (m1.newO c) w := by
  obtain ⟨a1, a2, a3, a4, a5, a6⟩ := h
  refine ⟨by rw [sp_newO_nx]; omega, fun a ha => ?_, fun k a ha hn => ?_, fun k a ha hn => ?_, fun k a ha hn => ?_, a6⟩
  · rw [sp_newO_ty, if_neg (by omega)]
    exact a2 a ha
  · rw [sp_newO_fI, if_neg (by omega)]
    exact a3 k a ha hn
  · rw [sp_newO_fL, if_neg (by omega)]
    exact a4 k a ha hn
  · rw [sp_newO_fR, if_neg (by omega)]
    exact a5 k a ha hn
theorem sp_fx.newA {m m1 : sp_M} {w : sp_W} (h : sp_fx m m1 w) (t n : Nat) : sp_fx m (m1.newA t n) w := by
  obtain ⟨a1, a2, a3, a4, a5, a6⟩ := h
  refine ⟨by rw [sp_newA_nx]; omega, fun a ha => ?_, a3, a4, a5, fun a ha hn => ?_⟩
  · rw [sp_newA_ty, sp_newA_ln, if_neg (by omega), if_neg (by omega)]
    exact a2 a ha
  · have r := a6 a ha hn
    refine ⟨?_, ?_, ?_⟩
    · rw [← r.1]; funext j; rw [sp_newA_aI, if_neg (by omega)]
    · rw [← r.2.1]; funext j; rw [sp_newA_aL, if_neg (by omega)]
    · rw [← r.2.2]; funext j; rw [sp_newA_aR, if_neg (by omega)]
theorem sp_fx.gh {m m1 : sp_M} {w : sp_W} (h : sp_fx m m1 w) {a v : Nat} (ha : m.nx ≤ a) : sp_fx m (m1.gh a v) w := by
  obtain ⟨a1, a2, a3, a4, a5, a6⟩ := h
  refine ⟨a1, fun b hb => ?_, a3, a4, a5, a6⟩
  rw [sp_gh_ln, if_neg (by omega)]
  exact a2 b hb
theorem sp_fx.wI {m m1 : sp_M} {w : sp_W} (h : sp_fx m m1 w) {a : Nat} {f : Nat → Int32} (hw : w.2.2.2 a ∨ m.nx ≤ a) : sp_fx m (m1.wI a f) w := by
  obtain ⟨a1, a2, a3, a4, a5, a6⟩ := h
  refine ⟨a1, a2, a3, a4, a5, fun b hb hn => ?_⟩
  have r := a6 b hb hn
  refine ⟨?_, r.2.1, r.2.2⟩
  rw [← r.1]
  funext i
  rw [sp_wI_aI, if_neg]
  rintro rfl
  rcases hw with z | z
  · exact hn z
  · omega
theorem sp_fx.wR {m m1 : sp_M} {w : sp_W} (h : sp_fx m m1 w) {a : Nat} {f : Nat → Option Nat} (hw : w.2.2.2 a ∨ m.nx ≤ a) : sp_fx m (m1.wR a f) w := by
  obtain ⟨a1, a2, a3, a4, a5, a6⟩ := h
  refine ⟨a1, a2, a3, a4, a5, fun b hb hn => ?_⟩
  have r := a6 b hb hn
  refine ⟨r.1, r.2.1, ?_⟩
  rw [← r.2.2]
  funext i
  rw [sp_wR_aR, if_neg]
  rintro rfl
  rcases hw with z | z
  · exact hn z
  · omega
theorem sp_fx.ad {G : sp_G} {m m1 m2 : sp_M} {w : sp_W} {o ed s b : Nat} (h : sp_fx m m1 w) (had : sp_ad G m1 o ed s b m2) (h1 : m.nx ≤ o ∨ (w.1 0 o ∧ w.1 2 o ∧ w.2.2.1 1 o)) (h2 : m.nx ≤ ed ∨ w.2.2.2 ed ∨ ¬ s < m1.ln ed) : sp_fx m m2 w := by
  obtain ⟨ed', hli, hold, hnew, hcase, hfR, hfI, hfL, haI, haR⟩ := had
  obtain ⟨a1, a2, a3, a4, a5, a6⟩ := h
  refine ⟨?_, fun a ha => ?_, fun k a ha hn => ?_, fun k a ha hn => ?_, fun k a ha hn => ?_, fun a ha hn => ?_⟩
  · rcases hcase with q | q <;> omega
  · have r := a2 a ha
    rcases hcase with q | q
    · rw [q.2.2.2.1, q.2.2.2.2]; exact r
    · rw [q.2.2.2.1, q.2.2.2.2]
      unfold sp_u1
      rw [if_neg (by omega), if_neg (by omega)]
      exact r
  · rw [hfI k a]
    · exact a3 k a ha hn
    · rintro ⟨rfl, rfl⟩
      rcases h1 with z | z
      · omega
      · exact hn z.1
    · rintro ⟨rfl, rfl⟩
      rcases h1 with z | z
      · omega
      · exact hn z.2.1
  · rw [hfL]; exact a4 k a ha hn
  · rw [hfR k a]
    · exact a5 k a ha hn
    · rintro ⟨rfl, rfl⟩
      rcases h1 with z | z
      · omega
      · exact hn z.2.2
  · have r := a6 a ha hn
    have q := haI a (by omega)
    refine ⟨q.1.trans r.1, q.2.trans r.2.1, ?_⟩
    rw [haR a (by
      rcases h2 with z | z | z
      · left; omega
      · left; rintro rfl; exact hn z
      · exact Or.inr z) (by omega)]
    exact r.2.2
theorem sp_wf.pI {m : sp_M} (h : sp_wf m) (k a : Nat) (v : Int32) : sp_wf (m.pI k a v) := h
theorem sp_wf.newO {m : sp_M} (h : sp_wf m) (c : Nat) : sp_wf (m.newO c) := by
  intro a ha
  rw [sp_newO_ty] at ha
  rw [sp_newO_nx]
  split at ha
  · omega
  · have := h a ha
    omega
theorem sp_wf.newA {m : sp_M} (h : sp_wf m) (t n : Nat) : sp_wf (m.newA t n) := by
  intro a ha
  rw [sp_newA_ty] at ha
  rw [sp_newA_nx]
  split at ha
  · omega
  · have := h a ha
    omega
theorem sp_wf.ad {G : sp_G} {m m' : sp_M} {o ed s b : Nat} (h : sp_wf m) (had : sp_ad G m o ed s b m') : sp_wf m' := by
  obtain ⟨ed', hli, hold, hnew, hcase, -⟩ := had
  intro a ha
  rcases hcase with q | q
  · rw [q.2.2.1]
    rw [q.2.2.2.1] at ha
    exact h a ha
  · rw [q.2.2.1]
    rw [q.2.2.2.1] at ha
    unfold sp_u1 at ha
    split at ha
    · omega
    · have := h a ha
      omega
theorem sp_wf.z {m : sp_M} (h : sp_wf m) : m.ty m.nx = 0 := by
  by_cases q : m.ty m.nx = 0
  · exact q
  · have := h _ q
    omega
/-- E, and o -/
def sp_E1 (E : Nat → Prop) (o : Nat) : Nat → Prop := fun a => E a ∨ a = o
/-- a new object, not made yet, with its ghost -/
theorem sp_J.newO {G : sp_G} {P E : Nat → Prop} {m : sp_M} (hJ : sp_J G P E m) (hwf : sp_wf m) (c r : Nat) : sp_J G P (sp_E1 E m.nx) ((m.newO c).gh m.nx r) := by
  have hz := hwf.z
  have hne : ∀ a, m.ty a ≠ 0 → a ≠ m.nx := fun a ha z => by subst z; exact ha hz
  have hty : ∀ a, m.ty a ≠ 0 → ((m.newO c).gh m.nx r).ty a = m.ty a := fun a ha => by
    show (m.newO c).ty a = _
    rw [sp_newO_ty, if_neg (hne a ha)]
  have hln : ∀ a, m.ty a ≠ 0 → ((m.newO c).gh m.nx r).ln a = m.ln a := fun a ha => by
    rw [sp_gh_ln, if_neg (hne a ha)]
    rfl
  have hti : ∀ a k, ((m.newO c).gh m.nx r).ty a = k → ¬ sp_E1 E m.nx a → m.ty a = k ∧ ¬ E a := fun a k h1 h2 => by
    have h3 : (m.newO c).ty a = k := h1
    rw [sp_newO_ty, if_neg (fun z => h2 (Or.inr z))] at h3
    exact ⟨h3, fun z => h2 (Or.inl z)⟩
  have hfR : ∀ k a, m.ty a ≠ 0 → ((m.newO c).gh m.nx r).fR k a = m.fR k a := fun k a ha => by
    show (m.newO c).fR k a = _
    rw [sp_newO_fR, if_neg (hne a ha)]
  have hfI : ∀ k a, m.ty a ≠ 0 → ((m.newO c).gh m.nx r).fI k a = m.fI k a := fun k a ha => by
    show (m.newO c).fI k a = _
    rw [sp_newO_fI, if_neg (hne a ha)]
  refine hJ.frame hty hln (fun k a ha _ _ => hfR k a ha) (fun a _ _ => rfl) (fun a L _ _ _ h => hfI _ _ (by omega)) (fun a ha he => ?_) ?_ (fun a h0 h1 h2 => ?_) (fun a h0 h1 h2 => ?_) (fun a h0 h1 h2 => ?_) (fun a h0 h1 h2 => ?_) (fun a h0 h1 h2 => ?_)
  · obtain ⟨g1, g2⟩ := hti a _ ha he
    obtain ⟨q1, q2⟩ := hJ.2.1 a g1 g2
    exact q1.same q2 hty hln (hfR _ _ (by omega)) (hfI _ _ (by omega)) (fun _ _ _ => rfl)
  · intro a b ed h1 h2 he1 he2 h3 h4 h5
    obtain ⟨g1, g2⟩ := hti a _ h1 he1
    obtain ⟨g3, g4⟩ := hti b _ h2 he2
    rw [hfR _ _ (by omega)] at h3 h4
    obtain ⟨⟨e9, s9, hli9, -⟩, -⟩ := hJ.2.1 a g1 g2
    have e99 : e9 = ed := Option.some.inj (hli9.2.1.symm.trans h3)
    subst e99
    have hk9 := hli9.2.2.2.2.2
    have he0 : m.ty e9 ≠ 0 := by rcases hk9 with q | q <;> omega
    exact hJ.2.2.1 a b e9 g1 g3 g2 g4 h3 h4 (by rw [← hty e9 he0]; exact h5)
  all_goals
    exfalso
    obtain ⟨g1, g2⟩ := hti a _ h1 h2
    rcases h0 with h0 | h0
    · omega
    · exact g2 h0
/-- an object is made: it is no more left out -/
theorem sp_J.drop {G : sp_G} {P E : Nat → Prop} {m : sp_M} {o : Nat} (hJ : sp_J G P (sp_E1 E o) m) (h1 : m.ty o = 1 → (sp_jL G m o ∧ sp_rl (m.ln o)) ∧ ∀ b ed, m.ty b = 1 → ¬ E b → b ≠ o → m.fR 1 o = some ed → m.fR 1 b = some ed → m.ty ed ≠ 23) (h2 : m.ty o = 5 → sp_jN P m o) (h3 : m.ty o = 6 → sp_jD m o) (h4 : m.ty o = 8 → sp_jP m o) (h5 : m.ty o = 4 → sp_jE m o) (h6 : m.ty o = 7 → sp_jO m o) : sp_J G P E m := by
  obtain ⟨hB, hLs, hOw, hN, hD, hPt, hE, hO⟩ := hJ
  have key : ∀ a, ¬ E a → a ≠ o → ¬ sp_E1 E o a := fun a q1 q2 => by
    rintro (z | z)
    · exact q1 z
    · exact q2 z
  refine ⟨hB, fun a ha he => ?_, fun a b ed ha hb hea heb q1 q2 q3 => ?_, fun a ha he => ?_, fun a ha he => ?_, fun a ha he => ?_, fun a ha he => ?_, fun a ha he => ?_⟩
  · by_cases q : a = o
    · subst q; exact (h1 ha).1
    · exact hLs a ha (key a he q)
  · by_cases qa : a = o
    · by_cases qb : b = o
      · rw [qa, qb]
      · subst qa
        exact absurd q3 ((h1 ha).2 b ed hb heb qb q1 q2)
    · by_cases qb : b = o
      · subst qb
        exact absurd q3 ((h1 hb).2 a ed ha hea qa q2 q1)
      · exact hOw a b ed ha hb (key a hea qa) (key b heb qb) q1 q2 q3
  · by_cases q : a = o
    · subst q; exact h2 ha
    · exact hN a ha (key a he q)
  · by_cases q : a = o
    · subst q; exact h3 ha
    · exact hD a ha (key a he q)
  · by_cases q : a = o
    · subst q; exact h4 ha
    · exact hPt a ha (key a he q)
  · by_cases q : a = o
    · subst q; exact h5 ha
    · exact hE a ha (key a he q)
  · by_cases q : a = o
    · subst q; exact h6 ha
    · exact hO a ha (key a he q)
/-- a new list is made -/
theorem sp_J.list {G : sp_G} {P E : Nat → Prop} {m : sp_M} {o r : Nat} (hJ : sp_J G P (sp_E1 E o) m) (ho : m.ty o = 1) (hr : m.ln o = r) (hrl : sp_rl r) (h1 : m.fR 1 o = some (G.sk 3)) (h2 : m.fI 2 o = 0) : sp_J G P E m ∧ sp_li G m o (G.sk 3) 0 := by
  have hli : sp_li G m o (G.sk 3) 0 := ⟨ho, h1, by rw [h2]; rfl, Nat.zero_le _, by rw [hJ.1.2]; omega, Or.inr ⟨hJ.1.1, rfl, hJ.1.2⟩⟩
  refine ⟨hJ.drop (fun _ => ⟨⟨⟨G.sk 3, 0, hli, fun j hj => absurd hj (by omega)⟩, by rw [hr]; exact hrl⟩, fun b ed _ _ _ q1 q2 => ?_⟩) (fun h => by omega) (fun h => by omega) (fun h => by omega) (fun h => by omega) (fun h => by omega), hli⟩
  have : ed = G.sk 3 := Option.some.inj (q1.symm.trans h1)
  rw [this, hJ.1.1]
  decide
/-- a name's memory, part by part -/
theorem sp_mkN_ty (m : sp_M) (o n : Nat) (g : Nat → Int32) (a : Nat) : (sp_mkN m o n g).ty a = if a = m.nx + 1 then 20 else if a = m.nx then 20 else m.ty a := rfl
theorem sp_mkN_ln (m : sp_M) (o n : Nat) (g : Nat → Int32) (a : Nat) : (sp_mkN m o n g).ln a = if a = m.nx + 1 then n else if a = m.nx then n else m.ln a := rfl
theorem sp_mkN_nx (m : sp_M) (o n : Nat) (g : Nat → Int32) : (sp_mkN m o n g).nx = m.nx + 2 := rfl
theorem sp_mkN_fI (m : sp_M) (o n : Nat) (g : Nat → Int32) : (sp_mkN m o n g).fI = m.fI := rfl
theorem sp_mkN_fL (m : sp_M) (o n : Nat) (g : Nat → Int32) : (sp_mkN m o n g).fL = m.fL := rfl
theorem sp_mkN_fR (m : sp_M) (o n : Nat) (g : Nat → Int32) (k a : Nat) : (sp_mkN m o n g).fR k a = if k = 257 ∧ a = o then some (m.nx + 1) else if k = 256 ∧ a = o then some m.nx else m.fR k a := rfl
theorem sp_mkN_aI (m : sp_M) (o n : Nat) (g : Nat → Int32) (a j : Nat) : (sp_mkN m o n g).aI a j = if a = m.nx + 1 then (if j < n then sp_sm (g j) else 0) else if a = m.nx then (if j < n then g j else 0) else m.aI a j := by
  show (if a = m.nx + 1 then (if j < n then sp_sm (g j) else 0) else if a = m.nx then (if j < n then g j else 0) else if a = m.nx + 1 then 0 else if a = m.nx then 0 else m.aI a j) = _
  by_cases h1 : a = m.nx + 1
  · rw [if_pos h1, if_pos h1]
  · by_cases h2 : a = m.nx
    · rw [if_neg h1, if_pos h2, if_neg h1, if_pos h2]
    · rw [if_neg h1, if_neg h2, if_neg h1, if_neg h2, if_neg h1, if_neg h2]
theorem sp_mkN_aR (m : sp_M) (o n : Nat) (g : Nat → Int32) (a : Nat) (h1 : a ≠ m.nx) (h2 : a ≠ m.nx + 1) : (sp_mkN m o n g).aR a = m.aR a := by
  funext j
  show (if a = m.nx + 1 then none else if a = m.nx then none else m.aR a j) = _
  rw [if_neg h2, if_neg h1]
theorem sp_fx.mkN {m m1 : sp_M} {w : sp_W} (h : sp_fx m m1 w) {o : Nat} (ho : m.nx ≤ o) (n : Nat) (g : Nat → Int32) : sp_fx m (sp_mkN m1 o n g) w := by
  have := h.1
  exact (((((h.newA 20 n).pR (Or.inr ho)).newA 20 n).pR (Or.inr ho)).wI (Or.inr (by omega))).wI (Or.inr (by omega))
theorem sp_wf.mkN {m : sp_M} (h : sp_wf m) (o n : Nat) (g : Nat → Int32) : sp_wf (sp_mkN m o n g) := (h.newA 20 n).newA 20 n
theorem sp_mkN_nm (m : sp_M) (o n : Nat) (g : Nat → Int32) (ho : m.ty o = 5) (hon : o < m.nx) (hn : n ≤ 160) : sp_nm (sp_mkN m o n g) o m.nx (m.nx + 1) := by
  refine ⟨?_, ?_, ?_, ?_, ?_, ?_, ?_⟩
  · rw [sp_mkN_ty, if_neg (by omega), if_neg (by omega)]; exact ho
  · rw [sp_mkN_fR, if_neg (by omega), if_pos ⟨rfl, rfl⟩]
  · rw [sp_mkN_fR, if_pos ⟨rfl, rfl⟩]
  · rw [sp_mkN_ty, if_neg (by omega), if_pos rfl]
  · rw [sp_mkN_ty, if_pos rfl]
  · rw [sp_mkN_ln, sp_mkN_ln, if_neg (by omega), if_pos rfl, if_pos rfl]
  · rw [sp_mkN_ln, if_neg (by omega), if_pos rfl]; exact hn
theorem sp_J.mkN {G : sp_G} {P E : Nat → Prop} {m : sp_M} {o : Nat} (hJ : sp_J G P (sp_E1 E o) m) (hwf : sp_wf m) (ho : m.ty o = 5) (hP : ∀ a, P a → a < m.nx) (n : Nat) (hn : n ≤ 160) (g : Nat → Int32) : sp_J G P E (sp_mkN m o n g) := by
  have hon : o < m.nx := hwf o (by omega)
  have hne : ∀ a, m.ty a ≠ 0 → a ≠ m.nx ∧ a ≠ m.nx + 1 := fun a ha => by have := hwf a ha; omega
  have hty : ∀ a, m.ty a ≠ 0 → (sp_mkN m o n g).ty a = m.ty a := fun a ha => by
    rw [sp_mkN_ty, if_neg (hne a ha).2, if_neg (hne a ha).1]
  have hln : ∀ a, m.ty a ≠ 0 → (sp_mkN m o n g).ln a = m.ln a := fun a ha => by
    rw [sp_mkN_ln, if_neg (hne a ha).2, if_neg (hne a ha).1]
  have hti : ∀ a k, (sp_mkN m o n g).ty a = k → k ≠ 20 → m.ty a = k := fun a k h1 h2 => by
    rw [sp_mkN_ty] at h1
    split at h1
    · exact absurd h1.symm h2
    · split at h1
      · exact absurd h1.symm h2
      · exact h1
  have hfR : ∀ k a, k ≠ 256 → k ≠ 257 → (sp_mkN m o n g).fR k a = m.fR k a := fun k a h1 h2 => by
    rw [sp_mkN_fR, if_neg (by omega), if_neg (by omega)]
  refine hJ.frame hty hln (fun k a ha he hk => ?_) (fun a ha _ => ?_) (fun a L _ _ _ _ => rfl) (fun a ha he => ?_) ?_ (fun a h0 h1 h2 => ?_) (fun a h0 h1 h2 => ?_) (fun a h0 h1 h2 => ?_) (fun a h0 h1 h2 => ?_) (fun a h0 h1 h2 => ?_)
  · have hao : a ≠ o := fun z => he (Or.inr z)
    rw [sp_mkN_fR, if_neg (by omega), if_neg (by omega)]
  · have q := hne a (by omega)
    funext j
    rw [sp_mkN_aI, if_neg q.2, if_neg q.1]
  · have h9 := hti a _ ha (by decide)
    have hao : a ≠ o := by rintro rfl; omega
    obtain ⟨q1, q2⟩ := hJ.2.1 a h9 (by rintro (z | z); exact he z; exact hao z)
    exact q1.same q2 hty hln (hfR _ _ (by decide) (by decide)) rfl (fun e _ h23 => sp_mkN_aR m o n g e (hne e (by omega)).1 (hne e (by omega)).2)
  · intro a b ed h1 h2 he1 he2 h3 h4 h5
    have g1 := hti a _ h1 (by decide)
    have g3 := hti b _ h2 (by decide)
    have hao : ¬ sp_E1 E o a := by
      rintro (z | z)
      · exact he1 z
      · subst z; omega
    have hbo : ¬ sp_E1 E o b := by
      rintro (z | z)
      · exact he2 z
      · subst z; omega
    rw [hfR _ _ (by decide) (by decide)] at h3 h4
    exact hJ.2.2.1 a b ed g1 g3 hao hbo h3 h4 (hti ed _ h5 (by decide))
  · have h9 := hti a _ h1 (by decide)
    have hao : a = o := by
      rcases h0 with z | z | z
      · omega
      · exact absurd z h2
      · exact z
    subst hao
    refine ⟨m.nx, m.nx + 1, sp_mkN_nm m a n g ho hon hn, fun z => ?_, fun z => ?_, fun j hj => ?_⟩
    · have := hP _ z; omega
    · have := hP _ z; omega
    · rw [sp_mkN_ln, if_neg (by omega), if_pos rfl] at hj
      have e1 : (sp_mkN m a n g).aI m.nx j = g j := by rw [sp_mkN_aI, if_neg (by omega), if_pos rfl, if_pos hj]
      have e2 : (sp_mkN m a n g).aI (m.nx + 1) j = sp_sm (g j) := by rw [sp_mkN_aI, if_pos rfl, if_pos hj]
      rw [e1, e2]
  all_goals
    exfalso
    have h9 := hti a _ h1 (by decide)
    rcases h0 with z | z | z
    · omega
    · exact absurd z h2
    · subst z; omega
