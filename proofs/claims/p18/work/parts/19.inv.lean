
/-! THE CLASS'S INVARIANT -/
/-- a boolean answer -/
def sp_bo (v : Int32) (p : Prop) : Prop := (v = 1 ∧ p) ∨ (v = 0 ∧ ¬ p)
theorem sp_bo.nar {v : Int32} {p : Prop} (h : sp_bo v p) : narrow .boolean (.int v) = .int v := by
  rcases h with ⟨rfl, -⟩ | ⟨rfl, -⟩ <;> rfl
theorem sp_bo.fit {v : Int32} {p : Prop} (h : sp_bo v p) : sp_fit .boolean (.int v) := by
  rcases h with ⟨rfl, -⟩ | ⟨rfl, -⟩ <;> exact ⟨rfl, rfl⟩
theorem sp_bo.ne {v : Int32} {p : Prop} (h : sp_bo v p) (hv : ¬ v = 0) : p := by
  rcases h with ⟨-, h⟩ | ⟨rfl, -⟩
  · exact h
  · exact absurd rfl hv
theorem sp_bo.eq {v : Int32} {p : Prop} (h : sp_bo v p) (hv : v = 0) : ¬ p := by
  rcases h with ⟨rfl, -⟩ | ⟨-, h⟩
  · exact absurd hv (by decide)
  · exact h
theorem sp_bo.t {p : Prop} (h : p) : sp_bo 1 p := Or.inl ⟨rfl, h⟩
theorem sp_bo.f {p : Prop} (h : ¬ p) : sp_bo 0 p := Or.inr ⟨rfl, h⟩
theorem sp_bo.iff {v : Int32} {p q : Prop} (h : sp_bo v p) (hpq : p ↔ q) : sp_bo v q := by
  rcases h with ⟨h1, h2⟩ | ⟨h1, h2⟩
  · exact Or.inl ⟨h1, hpq.mp h2⟩
  · exact Or.inr ⟨h1, fun z => h2 (hpq.mpr z)⟩
/-- a name: its bytes b, its small letters s -/
def sp_nm (m : sp_M) (a b s : Nat) : Prop := m.ty a = 5 ∧ m.fR 256 a = some b ∧ m.fR 257 a = some s ∧ m.ty b = 20 ∧ m.ty s = 20 ∧ m.ln b = m.ln s ∧ m.ln b ≤ 160
def sp_jN (P : Nat → Prop) (m : sp_M) (a : Nat) : Prop := ∃ b s, sp_nm m a b s ∧ ¬ P b ∧ ¬ P s ∧ ∀ j, j < m.ln b → m.aI s j = sp_sm (m.aI b j)
def sp_jD (m : sp_M) (a : Nat) : Prop := (∀ f, m.fR 321 a = some f → m.ty f = 6 ∧ f < a) ∧ (∃ nm, m.fR 322 a = some nm ∧ m.ty nm = 5) ∧ (∀ b, m.fR 323 a = some b → m.ty b = 2) ∧ (∀ t, m.fR 324 a = some t → m.ty t = 8)
/-- a list of names that is frozen bears 105; a PATH or TARGET bears a bound of its parts -/
def sp_jP (m : sp_M) (a : Nat) : Prop := ∃ L nn s, m.fR 450 a = some L ∧ m.ty L = 1 ∧ m.ln L = 105 ∧ m.fR 451 a = some nn ∧ m.ty nn = 5 ∧ m.fI 2 L = nI s ∧ s ≤ m.ln a ∧ m.ln a ≤ 161
def sp_jE (m : sp_M) (a : Nat) : Prop := ∃ p q, m.fR 193 a = some p ∧ m.ty p = 8 ∧ m.ln p ≤ 8 ∧ m.fR 194 a = some q ∧ m.ty q = 8
def sp_jO (m : sp_M) (a : Nat) : Prop := ∃ f, m.fR 384 a = some f ∧ m.ty f = 6
/-- what lies in a list that bears r -/
def sp_ep (m : sp_M) (r b : Nat) : Prop := m.ty b = r % 10 ∧ (r = 8 → m.ln b ≤ 8)
def sp_jL (G : sp_G) (m : sp_M) (a : Nat) : Prop := ∃ ed s, sp_li G m a ed s ∧ ∀ j, j < s → ∃ b, m.aR ed j = some b ∧ sp_ep m (m.ln a) b
def sp_rl (r : Nat) : Prop := r = 5 ∨ r = 105 ∨ r = 8 ∨ r = 18 ∨ r = 4 ∨ r = 6 ∨ r = 2 ∨ r = 7
def sp_ow (E : Nat → Prop) (m : sp_M) : Prop := ∀ a b ed, m.ty a = 1 → m.ty b = 1 → ¬ E a → ¬ E b → m.fR 1 a = some ed → m.fR 1 b = some ed → m.ty ed = 23 → a = b
/-- P: rows of ints that are written; E: objects that aren't made yet -/
def sp_J (G : sp_G) (P E : Nat → Prop) (m : sp_M) : Prop := (m.ty (G.sk 3) = 25 ∧ m.ln (G.sk 3) = 0) ∧ (∀ a, m.ty a = 1 → ¬ E a → sp_jL G m a ∧ sp_rl (m.ln a)) ∧ sp_ow E m ∧ (∀ a, m.ty a = 5 → ¬ E a → sp_jN P m a) ∧ (∀ a, m.ty a = 6 → ¬ E a → sp_jD m a) ∧ (∀ a, m.ty a = 8 → ¬ E a → sp_jP m a) ∧ (∀ a, m.ty a = 4 → ¬ E a → sp_jE m a) ∧ (∀ a, m.ty a = 7 → ¬ E a → sp_jO m a)
/-- the keys of references that never change once an object stands -/
def sp_fk (k : Nat) : Prop := k = 256 ∨ k = 257 ∨ k = 321 ∨ k = 322 ∨ k = 323 ∨ k = 324 ∨ k = 450 ∨ k = 451 ∨ k = 193 ∨ k = 194 ∨ k = 384
theorem sp_J.frame {G : sp_G} {P E E' : Nat → Prop} {m m' : sp_M} (hJ : sp_J G P E m) (hty : ∀ a, m.ty a ≠ 0 → m'.ty a = m.ty a) (hln : ∀ a, m.ty a ≠ 0 → m'.ln a = m.ln a) (hfR : ∀ k a, m.ty a ≠ 0 → ¬ E a → sp_fk k → m'.fR k a = m.fR k a) (haI : ∀ a, m.ty a = 20 → ¬ P a → m'.aI a = m.aI a) (hsz : ∀ a L, m.ty a = 8 → ¬ E a → m.fR 450 a = some L → m.ty L = 1 → m'.fI 2 L = m.fI 2 L)
    (hL : ∀ a, m'.ty a = 1 → ¬ E' a → sp_jL G m' a ∧ sp_rl (m'.ln a)) (how : sp_ow E' m') (hnN : ∀ a, m.ty a = 0 ∨ E a → m'.ty a = 5 → ¬ E' a → sp_jN P m' a) (hnD : ∀ a, m.ty a = 0 ∨ E a → m'.ty a = 6 → ¬ E' a → sp_jD m' a) (hnP : ∀ a, m.ty a = 0 ∨ E a → m'.ty a = 8 → ¬ E' a → sp_jP m' a) (hnE : ∀ a, m.ty a = 0 ∨ E a → m'.ty a = 4 → ¬ E' a → sp_jE m' a) (hnO : ∀ a, m.ty a = 0 ∨ E a → m'.ty a = 7 → ¬ E' a → sp_jO m' a) : sp_J G P E' m' := by
  obtain ⟨hB, hLs, hOw, hN, hD, hPt, hE, hO⟩ := hJ
  have tk : ∀ {a k}, m.ty a = k → k ≠ 0 → m'.ty a = k := fun {a k} h1 h2 => by rw [hty a (by rw [h1]; exact h2)]; exact h1
  have lk : ∀ {a k}, m.ty a = k → k ≠ 0 → m'.ln a = m.ln a := fun {a k} h1 h2 => hln a (by rw [h1]; exact h2)
  have fk : ∀ {a k q}, m.ty a = q → q ≠ 0 → ¬ E a → sp_fk k → m'.fR k a = m.fR k a := fun {a k q} h1 h2 h4 h3 => hfR k a (by rw [h1]; exact h2) h4 h3
  have bk : ∀ {a k}, m'.ty a = k → ¬ (m.ty a = 0 ∨ E a) → m.ty a = k ∧ ¬ E a := fun {a k} h1 h2 => ⟨by rw [← hty a (fun z => h2 (Or.inl z))]; exact h1, fun z => h2 (Or.inr z)⟩
  refine ⟨⟨tk hB.1 (by decide), by rw [lk hB.1 (by decide)]; exact hB.2⟩, hL, how, fun a ha hEa => ?_, fun a ha hEa => ?_, fun a ha hEa => ?_, fun a ha hEa => ?_, fun a ha hEa => ?_⟩
  · by_cases h0 : m.ty a = 0 ∨ E a
    · exact hnN a h0 ha hEa
    obtain ⟨ha0, he0⟩ := bk ha h0
    obtain ⟨b, s, ⟨h1, h2, h3, h4, h5, h6, h7⟩, h8, h9, h10⟩ := hN a ha0 he0
    refine ⟨b, s, ⟨ha, ?_, ?_, tk h4 (by decide), tk h5 (by decide), ?_, ?_⟩, h8, h9, ?_⟩
    · rw [fk ha0 (by decide) he0 (by unfold sp_fk; omega)]; exact h2
    · rw [fk ha0 (by decide) he0 (by unfold sp_fk; omega)]; exact h3
    · rw [lk h4 (by decide), lk h5 (by decide)]; exact h6
    · rw [lk h4 (by decide)]; exact h7
    · rw [lk h4 (by decide), haI b h4 h8, haI s h5 h9]; exact h10
  · by_cases h0 : m.ty a = 0 ∨ E a
    · exact hnD a h0 ha hEa
    obtain ⟨ha0, he0⟩ := bk ha h0
    obtain ⟨h1, ⟨nm, h2, h3⟩, h4, h5⟩ := hD a ha0 he0
    refine ⟨fun f hf => ?_, ⟨nm, ?_, tk h3 (by decide)⟩, fun b hb => ?_, fun t ht => ?_⟩
    · rw [fk ha0 (by decide) he0 (by unfold sp_fk; omega)] at hf
      exact ⟨tk (h1 f hf).1 (by decide), (h1 f hf).2⟩
    · rw [fk ha0 (by decide) he0 (by unfold sp_fk; omega)]; exact h2
    · rw [fk ha0 (by decide) he0 (by unfold sp_fk; omega)] at hb
      exact tk (h4 b hb) (by decide)
    · rw [fk ha0 (by decide) he0 (by unfold sp_fk; omega)] at ht
      exact tk (h5 t ht) (by decide)
  · by_cases h0 : m.ty a = 0 ∨ E a
    · exact hnP a h0 ha hEa
    obtain ⟨ha0, he0⟩ := bk ha h0
    obtain ⟨L, nn, s, h1, h2, h3, h4, h5, h6, h7, h8⟩ := hPt a ha0 he0
    have hla := hln a (by omega)
    refine ⟨L, nn, s, ?_, tk h2 (by decide), by rw [lk h2 (by decide)]; exact h3, ?_, tk h5 (by decide), by rw [hsz a L ha0 he0 h1 h2]; exact h6, by rw [hla]; exact h7, by rw [hla]; exact h8⟩
    · rw [fk ha0 (by decide) he0 (by unfold sp_fk; omega)]; exact h1
    · rw [fk ha0 (by decide) he0 (by unfold sp_fk; omega)]; exact h4
  · by_cases h0 : m.ty a = 0 ∨ E a
    · exact hnE a h0 ha hEa
    obtain ⟨ha0, he0⟩ := bk ha h0
    obtain ⟨p, q, h1, h2, h3, h4, h5⟩ := hE a ha0 he0
    refine ⟨p, q, ?_, tk h2 (by decide), by rw [lk h2 (by decide)]; exact h3, ?_, tk h5 (by decide)⟩
    · rw [fk ha0 (by decide) he0 (by unfold sp_fk; omega)]; exact h1
    · rw [fk ha0 (by decide) he0 (by unfold sp_fk; omega)]; exact h4
  · by_cases h0 : m.ty a = 0 ∨ E a
    · exact hnO a h0 ha hEa
    obtain ⟨ha0, he0⟩ := bk ha h0
    obtain ⟨f, h1, h2⟩ := hO a ha0 he0
    refine ⟨f, ?_, tk h2 (by decide)⟩
    rw [fk ha0 (by decide) he0 (by unfold sp_fk; omega)]; exact h1
theorem sp_rl.ne {r : Nat} (h : sp_rl r) : r % 10 ≠ 0 := by
  unfold sp_rl at h
  omega
/-- the same lists -/
theorem sp_jL.same {G : sp_G} {m m' : sp_M} {a : Nat} (h : sp_jL G m a) (hr : sp_rl (m.ln a)) (hty : ∀ a, m.ty a ≠ 0 → m'.ty a = m.ty a) (hln : ∀ a, m.ty a ≠ 0 → m'.ln a = m.ln a) (h1 : m'.fR 1 a = m.fR 1 a) (h2 : m'.fI 2 a = m.fI 2 a) (h3 : ∀ ed, m.fR 1 a = some ed → m.ty ed = 23 → m'.aR ed = m.aR ed) : sp_jL G m' a ∧ sp_rl (m'.ln a) := by
  obtain ⟨ed, s, ⟨g1, g2, g3, g4, g5, g6⟩, hel⟩ := h
  have hed : m.ty ed ≠ 0 := by rcases g6 with g | g <;> omega
  have ha0 : m.ty a ≠ 0 := by omega
  refine ⟨⟨ed, s, ⟨by rw [hty a ha0]; exact g1, by rw [h1]; exact g2, by rw [h2]; exact g3, by rw [hln ed hed]; exact g4, by rw [hln ed hed]; exact g5, by rw [hty ed hed, hln ed hed]; exact g6⟩, fun j hj => ?_⟩, by rw [hln a ha0]; exact hr⟩
  have h23 : m.ty ed = 23 := by rcases g6 with g | g <;> omega
  obtain ⟨b, q1, q2, q3⟩ := hel j hj
  have hb0 : m.ty b ≠ 0 := by rw [q2]; exact hr.ne
  rw [h3 ed g2 h23, hln a ha0]
  exact ⟨b, q1, by rw [hty b hb0]; exact q2, fun z => by rw [hln b hb0]; exact q3 z⟩
/-- nothing that the invariant speaks of has changed -/
theorem sp_J.same {G : sp_G} {P E : Nat → Prop} {m m' : sp_M} (hJ : sp_J G P E m) (hty : m'.ty = m.ty) (hln : m'.ln = m.ln) (hfR : ∀ k a, ¬ E a → sp_fk k ∨ k = 1 → m'.fR k a = m.fR k a) (haI : ∀ a, m.ty a = 20 → ¬ P a → m'.aI a = m.aI a) (hsz : ∀ a, m.ty a = 1 → m'.fI 2 a = m.fI 2 a) (haR : m'.aR = m.aR) : sp_J G P E m' := by
  refine hJ.frame (fun a _ => by rw [hty]) (fun a _ => by rw [hln]) (fun k a _ he h => hfR k a he (Or.inl h)) haI (fun a L _ _ _ h => hsz L h) (fun a ha he => ?_) ?_ (fun a h0 h1 h2 => ?_) (fun a h0 h1 h2 => ?_) (fun a h0 h1 h2 => ?_) (fun a h0 h1 h2 => ?_) (fun a h0 h1 h2 => ?_)
  · rw [hty] at ha
    obtain ⟨g1, g2⟩ := hJ.2.1 a ha he
    exact g1.same g2 (fun a _ => by rw [hty]) (fun a _ => by rw [hln]) (hfR _ _ he (Or.inr rfl)) (hsz a ha) (fun ed _ _ => by rw [haR])
  · intro a b ed h1 h2 he1 he2 h3 h4 h5
    rw [hty] at h1 h2 h5
    rw [hfR _ _ he1 (Or.inr rfl)] at h3
    rw [hfR _ _ he2 (Or.inr rfl)] at h4
    exact hJ.2.2.1 a b ed h1 h2 he1 he2 h3 h4 h5
  all_goals
    exfalso
    rw [hty] at h1
    rcases h0 with h0 | h0
    · rw [h0] at h1; cases h1
    · exact h2 h0
theorem sp_J.pI {G : sp_G} {P E : Nat → Prop} {m : sp_M} (hJ : sp_J G P E m) {k a : Nat} {v : Int32} (hk : k ≠ 2) : sp_J G P E (m.pI k a v) :=
  hJ.same rfl rfl (fun _ _ _ _ => rfl) (fun _ _ _ => rfl) (fun b _ => by rw [sp_pI_fI, if_neg (by rintro ⟨h, -⟩; exact hk h.symm)]) rfl
theorem sp_J.pL {G : sp_G} {P E : Nat → Prop} {m : sp_M} (hJ : sp_J G P E m) {k a : Nat} {v : Int64} : sp_J G P E (m.pL k a v) :=
  hJ.same rfl rfl (fun _ _ _ _ => rfl) (fun _ _ _ => rfl) (fun _ _ => rfl) rfl
theorem sp_J.pR {G : sp_G} {P E : Nat → Prop} {m : sp_M} (hJ : sp_J G P E m) {k a : Nat} {v : Option Nat} (hk : ¬ (sp_fk k ∨ k = 1) ∨ E a) : sp_J G P E (m.pR k a v) :=
  hJ.same rfl rfl (fun j b he h => by
    rw [sp_pR_fR, if_neg]
    rintro ⟨h1, h2⟩
    subst h1 h2
    rcases hk with hk | hk
    · exact hk h
    · exact he hk) (fun _ _ _ => rfl) (fun _ _ => rfl) rfl
theorem sp_J.sI {G : sp_G} {P E : Nat → Prop} {m : sp_M} (hJ : sp_J G P E m) {a j : Nat} {v : Int32} (ha : P a ∨ m.ty a ≠ 20) : sp_J G P E (m.sI a j v) :=
  hJ.same rfl rfl (fun _ _ _ _ => rfl) (fun b hb h => by
    funext i
    rw [sp_sI_aI, if_neg]
    rintro ⟨h1, -⟩
    subst h1
    rcases ha with ha | ha
    · exact h ha
    · exact ha hb) (fun _ _ => rfl) rfl
theorem sp_J.sL {G : sp_G} {P E : Nat → Prop} {m : sp_M} (hJ : sp_J G P E m) {a j : Nat} {v : Int64} : sp_J G P E (m.sL a j v) :=
  hJ.same rfl rfl (fun _ _ _ _ => rfl) (fun _ _ _ => rfl) (fun _ _ => rfl) rfl
theorem sp_J.nm {G : sp_G} {P E : Nat → Prop} {m : sp_M} (hJ : sp_J G P E m) {a : Nat} (ha : m.ty a = 5) (he : ¬ E a) : ∃ b s, sp_nm m a b s ∧ ∀ j, j < m.ln b → m.aI s j = sp_sm (m.aI b j) := by
  obtain ⟨b, s, h1, -, -, h2⟩ := hJ.2.2.2.1 a ha he
  exact ⟨b, s, h1, h2⟩
/-- the element's class may lie in a row of references -/
theorem sp_ep.ob {m : sp_M} {r b : Nat} (hr : sp_rl r) (h : sp_ep m r b) : sp_ob m b := by
  obtain ⟨h1, -⟩ := h
  unfold sp_rl at hr
  rcases hr with rfl | rfl | rfl | rfl | rfl | rfl | rfl | rfl
  · exact ⟨4, h1, by decide, ca_4⟩
  · exact ⟨4, h1, by decide, ca_4⟩
  · exact ⟨7, h1, by decide, ca_7⟩
  · exact ⟨7, h1, by decide, ca_7⟩
  · exact ⟨3, h1, by decide, ca_3⟩
  · exact ⟨5, h1, by decide, ca_5⟩
  · exact ⟨1, h1, by decide, ca_1⟩
  · exact ⟨6, h1, by decide, ca_6⟩
/-- add keeps the invariant -/
theorem sp_J.add {G : sp_G} {P E : Nat → Prop} {m m' : sp_M} {o ed s b : Nat} (hJ : sp_J G P E m) (hwf : sp_wf m) (h : sp_li G m o ed s) (heo : ¬ E o) (hr : ∀ a, m.ty a = 8 → ¬ E a → m.fR 450 a ≠ some o) (hb : sp_ep m (m.ln o) b) (had : sp_ad G m o ed s b m') : sp_J G P E m' := by
  obtain ⟨ed', hli, hold, hnew, hcase, hfR, hfI, hfL, haI, haR⟩ := had
  have hnx : m.ty m.nx = 0 := by
    by_cases q : m.ty m.nx = 0
    · exact q
    · have := hwf _ q
      omega
  have hty : ∀ a, m.ty a ≠ 0 → m'.ty a = m.ty a := by
    intro a ha
    rcases hcase with q | q
    · rw [q.2.2.2.1]
    · rw [q.2.2.2.1]
      unfold sp_u1
      rw [if_neg (fun z => by subst z; exact ha hnx)]
  have hln : ∀ a, m.ty a ≠ 0 → m'.ln a = m.ln a := by
    intro a ha
    rcases hcase with q | q
    · rw [q.2.2.2.2]
    · rw [q.2.2.2.2]
      unfold sp_u1
      rw [if_neg (fun z => by subst z; exact ha hnx)]
  have hti : ∀ a k, m'.ty a = k → k ≠ 23 → m.ty a = k := by
    intro a k h1 h2
    rcases hcase with q | q
    · rw [q.2.2.2.1] at h1; exact h1
    · rw [q.2.2.2.1] at h1
      unfold sp_u1 at h1
      split at h1
      · exact absurd h1.symm h2
      · exact h1
  have hro := (hJ.2.1 o h.1 heo).2
  have hb0 : m.ty b ≠ 0 := by rw [hb.1]; exact hro.ne
  have hed23 : ∀ a, m.ty a = 1 → ¬ E a → a ≠ o → ∀ e, m.fR 1 a = some e → m.ty e = 23 → e ≠ ed := by
    intro a ha hea hao e he h23 hee
    subst hee
    exact hao (hJ.2.2.1 a o e ha h.1 hea heo he h.2.1 h23)
  refine hJ.frame hty hln (fun k a _ _ hk => hfR k a (by unfold sp_fk at hk; omega)) (fun a ha _ => (haI a (fun z => by subst z; omega)).1) (fun a L h1 h2 h3 h4 => hfI _ _ (by omega) (by rintro ⟨-, z⟩; subst z; exact hr a h1 h2 h3)) (fun a ha hea => ?_) ?_ (fun a h0 h1 h2 => ?_) (fun a h0 h1 h2 => ?_) (fun a h0 h1 h2 => ?_) (fun a h0 h1 h2 => ?_) (fun a h0 h1 h2 => ?_)
  · have ha0 := hti a _ ha (by decide)
    obtain ⟨g1, g2⟩ := hJ.2.1 a ha0 hea
    by_cases hao : a = o
    · subst hao
      refine ⟨⟨ed', s + 1, hli, fun j hj => ?_⟩, by rw [hln a (by omega)]; exact g2⟩
      rw [hln a (by omega)]
      rcases Nat.lt_or_ge j s with q | q
      · obtain ⟨ed0, s0, hli0, hel⟩ := g1
        have e1 : ed0 = ed := Option.some.inj (hli0.2.1.symm.trans h.2.1)
        subst e1
        have e2 : s0 = s := by
          have := hli0.2.2.1.symm.trans h.2.2.1
          exact (nI_eq (by have := hli0.2.2.2.1; have := hli0.2.2.2.2.1; omega) (by have := h.2.2.2.1; have := h.2.2.2.2.1; omega)).mp this
        subst e2
        obtain ⟨x, q1, q2, q3⟩ := hel j q
        have hx0 : m.ty x ≠ 0 := by rw [q2]; exact g2.ne
        rw [hold j q]
        exact ⟨x, q1, by rw [hty x hx0]; exact q2, fun z => by rw [hln x hx0]; exact q3 z⟩
      · rw [show j = s by omega, hnew]
        exact ⟨b, rfl, by rw [hty b hb0]; exact hb.1, fun z => by rw [hln b hb0]; exact hb.2 z⟩
    · refine g1.same g2 hty hln (hfR _ _ (by omega)) (hfI _ _ (by omega) (by omega)) (fun e he h23 => ?_)
      exact haR e (Or.inl (hed23 a ha0 hea hao e he h23)) (fun z => by subst z; omega)
  · intro a c e h1 h2 hea hec h3 h4 h5
    have ha0 := hti a _ h1 (by decide)
    have hc0 := hti c _ h2 (by decide)
    by_cases hao : a = o
    · by_cases hco : c = o
      · rw [hao, hco]
      · exfalso
        rw [hfR _ _ (by omega)] at h4
        subst hao
        have he : e = ed' := Option.some.inj (h3.symm.trans hli.2.1)
        obtain ⟨⟨e9, s9, hli9, -⟩, -⟩ := hJ.2.1 c hc0 hec
        have e99 : e9 = e := Option.some.inj (hli9.2.1.symm.trans h4)
        subst e99
        have hk9 := hli9.2.2.2.2.2
        have he0 : m.ty e9 ≠ 0 := by rcases hk9 with q | q <;> omega
        have h23 : m.ty e9 = 23 := by rw [← hty e9 he0]; exact h5
        rcases hcase with q | q
        · exact hed23 c hc0 hec hco e9 h4 h23 (he.trans q.2.1)
        · rw [q.2.1] at he
          rw [he, hnx] at he0
          exact he0 rfl
    · by_cases hco : c = o
      · exfalso
        rw [hfR _ _ (by omega)] at h3
        subst hco
        have he : e = ed' := Option.some.inj (h4.symm.trans hli.2.1)
        obtain ⟨⟨e9, s9, hli9, -⟩, -⟩ := hJ.2.1 a ha0 hea
        have e99 : e9 = e := Option.some.inj (hli9.2.1.symm.trans h3)
        subst e99
        have hk9 := hli9.2.2.2.2.2
        have he0 : m.ty e9 ≠ 0 := by rcases hk9 with q | q <;> omega
        have h23 : m.ty e9 = 23 := by rw [← hty e9 he0]; exact h5
        rcases hcase with q | q
        · exact hed23 a ha0 hea hao e9 h3 h23 (he.trans q.2.1)
        · rw [q.2.1] at he
          rw [he, hnx] at he0
          exact he0 rfl
      · rw [hfR _ _ (by omega)] at h3 h4
        obtain ⟨⟨e9, s9, hli9, -⟩, -⟩ := hJ.2.1 a ha0 hea
        have e99 : e9 = e := Option.some.inj (hli9.2.1.symm.trans h3)
        subst e99
        have hk9 := hli9.2.2.2.2.2
        have he0 : m.ty e9 ≠ 0 := by rcases hk9 with q | q <;> omega
        exact hJ.2.2.1 a c e9 ha0 hc0 hea hec h3 h4 (by rw [← hty e9 he0]; exact h5)
  all_goals
    exfalso
    have h9 := hti a _ h1 (by decide)
    rcases h0 with h0 | h0
    · omega
    · exact h2 h0
