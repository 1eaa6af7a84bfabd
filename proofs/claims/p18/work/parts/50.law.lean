
theorem sp_V.gen {B : Nat → Nat} {m0 m : sp_M} {D : Nat → Int32} {R : Int32} {l0 l1 : Int64} {d n b p t e L w : Nat} {vq vm vl : Int32} {vs : Int64} {vA vE : Nat → Int64} (h : sp_V B m0 m D R l0 l1 d n b p t e L w vq vm vl vs vA vE) {m1 m' : sp_M} (hf : sp_mf B m1 m') (hr : sp_R0 m' B) (hI : ∀ k, k = 832 ∨ k = 834 ∨ k = 835 ∨ k = 846 ∨ k = 849 ∨ k = 853 ∨ k = 856 ∨ k = 867 ∨ k = 845 ∨ k = 863 ∨ k = 865 → m'.fI k (B 0) = m.fI k (B 0)) (hD : m'.aI (B 1) = m.aI (B 1)) (hM : ∀ k, k = 861 ∨ k = 862 ∨ k = 864 → m'.fL k (B 0) = m.fL k (B 0)) (hLL : ∀ k, k = 15 ∨ k = 28 → m'.aL (B k) = m.aL (B k)) (hA : ∀ k, (sp_mt k).1 ≠ 0 → m'.aI (B k) = m.aI (B k)) : sp_V B m1 m' D R l0 l1 d n b p t e L w vq vm vl vs vA vE :=
  ⟨hf, hr, (by rw [hI 834 (by omega)]; exact h.cd), (by rw [hI 835 (by omega)]; exact h.cn), (by rw [hI 846 (by omega)]; exact h.cb), (by rw [hI 849 (by omega)]; exact h.cp), (by rw [hI 853 (by omega)]; exact h.ct), (by rw [hI 856 (by omega)]; exact h.ce), (by rw [hI 867 (by omega)]; exact h.cw), (by rw [hI 832 (by omega)]; exact h.ru), (by rw [hD]; exact h.dr), (by rw [hM 861 (by omega)]; exact h.c0), (by rw [hM 862 (by omega)]; exact h.c1), h.hd, h.hn, h.hb, h.hp, h.ht, h.he, h.hw, h.hL, (fun j hj => by rw [hA 8 (by decide)]; exact h.ov j hj), (fun j hj => by rw [hA 10 (by decide)]; exact h.le j hj), (fun j hj => by rw [hA 4 (by decide), hA 9 (by decide)]; exact h.lk j hj), (fun j hj => by rw [hA 18 (by decide)]; exact h.pa j hj), (fun j hj => by rw [hA 19 (by decide)]; exact h.pl j hj), (fun j hj => by rw [hA 22 (by decide)]; exact h.ts j hj), (fun j hj => by rw [hA 26 (by decide)]; exact h.ep j hj), (fun j hj => by rw [hA 25 (by decide), hA 27 (by decide)]; exact h.e2 j hj), (fun j hj => by rw [hA 25 (by decide), hA 27 (by decide)]; exact h.e3 j hj), (by rw [hI 845 (by omega)]; exact h.cq), (by rw [hI 863 (by omega)]; exact h.cm), (by rw [hI 865 (by omega)]; exact h.cl), (by rw [hM 864 (by omega)]; exact h.cs), (by rw [hLL 15 (by omega)]; exact h.rA), (by rw [hLL 28 (by omega)]; exact h.rE)⟩
/-- the class's frames leave the model -/
theorem sp_V.fr {B : Nat → Nat} {m0 m : sp_M} {D : Nat → Int32} {R : Int32} {l0 l1 : Int64} {d n b p t e L w : Nat} {vq vm vl : Int32} {vs : Int64} {vA vE : Nat → Int64} (h : sp_V B m0 m D R l0 l1 d n b p t e L w vq vm vl vs vA vE) {m' : sp_M} {f : sp_W} (hf : sp_fx m m' f) (hwf : sp_wf m) (h1 : ∀ k a, f.1 k a → k < 832) (h2 : ∀ k a, f.2.1 k a → k < 832) (h3 : ∀ k a, f.2.2.1 k a → k < 832) (h4 : ∀ k, (sp_mt k).1 ≠ 0 → ¬ f.2.2.2 (B k)) : sp_V B m' m' D R l0 l1 d n b p t e L w vq vm vl vs vA vE := by
  have a0 : B 0 < m.nx := hwf _ (by rw [h.r.o]; decide)
  have ak : ∀ k, (sp_mt k).1 ≠ 0 → B k < m.nx := fun k hk => hwf _ (by rw [(h.r.q k hk).2.1]; exact hk)
  refine h.gen (sp_mf.refl _ _) ⟨?_, fun k hk => ⟨?_, ?_, ?_⟩, h.r.ap⟩ (fun k hk => hf.2.2.1 k _ a0 (fun z => by have := h1 k _ z; omega)) (hf.2.2.2.2.2 _ (ak 1 (by decide)) (h4 1 (by decide))).1 (fun k hk => hf.2.2.2.1 k _ a0 (fun z => by have := h2 k _ z; omega)) (fun k hk => by rcases hk with rfl | rfl <;> exact (hf.2.2.2.2.2 _ (ak _ (by decide)) (h4 _ (by decide))).2.1) (fun k hk => (hf.2.2.2.2.2 _ (ak k hk) (h4 k hk)).1)
  · rw [(hf.2.1 _ a0).1]; exact h.r.o
  · rw [hf.2.2.2.2.1 _ _ a0 (fun z => by have := h3 _ _ z; omega)]; exact (h.r.q k hk).1
  · rw [(hf.2.1 _ (ak k hk)).1]; exact (h.r.q k hk).2.1
  · rw [(hf.2.1 _ (ak k hk)).2]; exact (h.r.q k hk).2.2
theorem sp_V.row {B : Nat → Nat} {m0 m : sp_M} {D : Nat → Int32} {R : Int32} {l0 l1 : Int64} {d n b p t e L w : Nat} {vq vm vl : Int32} {vs : Int64} {vA vE : Nat → Int64} (h : sp_V B m0 m D R l0 l1 d n b p t e L w vq vm vl vs vA vE) {a : Nat} (ha : sp_mr B a) : m.ty a = 20 ∨ m.ty a = 21 ∨ m.ty a = 22 := by
  obtain ⟨k, hk, rfl⟩ := ha
  obtain ⟨-, a2, a3⟩ := sp_mix_tab k (sp_mt_lt hk) hk
  have := sp_mro_ty _ a2
  rw [a3] at this
  rw [(h.r.q k hk).2.1]
  exact this
theorem sp_V.F {B : Nat → Nat} {m0 m : sp_M} {D : Nat → Int32} {R : Int32} {l0 l1 : Int64} {d n b p t e L w : Nat} {vq vm vl : Int32} {vs : Int64} {vA vE : Nat → Int64} (h : sp_V B m0 m D R l0 l1 d n b p t e L w vq vm vl vs vA vE) {m' : sp_M} {A : Nat → Nat} {T : Nat → Prop} (hf : sp_F m m' A T) (hwf : sp_wf m) : sp_V B m' m' D R l0 l1 d n b p t e L w vq vm vl vs vA vE :=
  h.fr hf hwf (fun k a z => by rcases z with z | z <;> omega) (fun k a z => by have z : k = 583 := z.1; omega) (fun k a z => by rcases z with z | z <;> omega) (fun k hk z => by
    have z : m.ty (B k) = 23 := z.1
    have := h.row ⟨k, hk, rfl⟩
    omega)
def sp_wm (B : Nat → Nat) : sp_W := (fun k _ => 832 ≤ k, fun k _ => 832 ≤ k, fun _ _ => False, fun a => sp_mr B a)
theorem sp_mf.fx {B : Nat → Nat} {m m' : sp_M} (h : sp_mf B m m') : sp_fx m m' (sp_wm B) := by
  obtain ⟨a1, a2, a3, a4, a5, a6, a7⟩ := h
  exact ⟨Nat.le_of_eq a1.symm, fun a _ => by rw [a2, a3]; exact ⟨rfl, rfl⟩, fun k a _ hk => (a6 k a (Nat.lt_of_not_le hk)).1, fun k a _ hk => (a6 k a (Nat.lt_of_not_le hk)).2, fun k a _ _ => by rw [a4], fun a _ ha => ⟨(a7 a ha).1, (a7 a ha).2, by rw [a5]⟩⟩
theorem sp_wf.mf {B : Nat → Nat} {m m' : sp_M} (hw : sp_wf m) (h : sp_mf B m m') : sp_wf m' := fun a ha => by
  rw [h.2.1] at ha
  rw [h.1]
  exact hw a ha
theorem sp_I.mf {G : sp_G} {P : Nat → Prop} {A B : Nat → Nat} {m m' : sp_M} (hI : sp_I G P A m) (h : sp_mf B m m') (hP : ∀ a, sp_mr B a → P a) (hr : ∀ a, sp_mr B a → m.ty a ≠ 23) : sp_I G P A m' := by
  refine ⟨hI.J.same h.2.1 h.2.2.1 (fun k a _ _ => by rw [h.2.2.2.1]) (fun a _ ha => (h.2.2.2.2.2.2 a (fun z => ha (hP a z))).1) (fun a _ => (h.2.2.2.2.2.1 2 a (by decide)).1) h.2.2.2.2.1, hI.wf.mf h, hI.S.fx hI.wf h.fx (fun _ _ z => z.elim) (fun k a z => ?_) hr, fun a ha => by rw [h.1]; exact hI.2.2.2 a ha⟩
  have z : 832 ≤ k := z
  omega
/-- fields that are never written again; frames that leave them, the lists Q and all names -/
def sp_im (k : Nat) : Prop := k = 64 ∨ k = 65 ∨ k = 66 ∨ (192 ≤ k ∧ k ≤ 196) ∨ k = 256 ∨ k = 257 ∨ (320 ≤ k ∧ k ≤ 325) ∨ k = 384 ∨ k = 385 ∨ (448 ≤ k ∧ k ≤ 451) ∨ (512 ≤ k ∧ k ≤ 517)
def sp_gd (m : sp_M) (A : Nat → Nat) (w : sp_W) (Q : Nat → Prop) : Prop := (∀ k a, w.1 k a → ¬ sp_im k) ∧ (∀ k a, w.2.1 k a → ¬ sp_im k) ∧ (∀ k a, w.2.2.1 k a → ¬ sp_im k) ∧ (∀ L, m.ty L = 1 → (m.ln L = 105 ∨ ∃ j, Q j ∧ sp_ix j ∧ L = A j) → ¬ w.1 2 L ∧ ¬ w.2.2.1 1 L ∧ ∀ ed, m.fR 1 L = some ed → ¬ w.2.2.2 ed) ∧ (∀ nm b s, sp_nm m nm b s → ¬ w.2.2.2 b)
theorem sp_gd.F {G : sp_G} {P : Nat → Prop} {A : Nat → Nat} {m : sp_M} (hI : sp_I G P A m) (T : Nat → Prop) : sp_gd m A (sp_wc m A T) (fun j => ¬ T j) := by
  refine ⟨fun k a z => ?_, fun k a z => ?_, fun k a z => ?_, fun L h1 h2 => ?_, fun nm b s q z => ?_⟩
  · unfold sp_im; rcases z with z | z <;> omega
  · have z : k = 583 := z.1
    unfold sp_im; omega
  · unfold sp_im; rcases z with z | z <;> omega
  · have hn : ¬ sp_tl A T L := by
      rcases h2 with h2 | ⟨j, h2, h3, h4⟩
      · exact sp_tl.n hI.S h2
      · rw [h4]; exact sp_tl.o hI.S h3 h2
    exact ⟨by rintro (z | z); exact hn z.2; omega, by rintro (z | z); exact hn z.2; omega, fun ed he z => z.2 ⟨L, hI.wf L (by omega), h1, he, hn⟩⟩
  · have := z.1
    have := q.2.2.2.1
    omega
theorem sp_edk {G : sp_G} {P : Nat → Prop} {A : Nat → Nat} {m : sp_M} (hI : sp_I G P A m) {L ed : Nat} (h1 : m.ty L = 1) (he : m.fR 1 L = some ed) : m.ty ed = 23 ∨ m.ty ed = 25 := by
  obtain ⟨⟨ed', s', q, -⟩, -⟩ := hI.J.2.1 L h1 (sp_e0 _)
  cases q.2.1.symm.trans he
  have := q.2.2.2.2.2
  omega
theorem sp_gd.mf {B : Nat → Nat} {m : sp_M} (hrow : ∀ a, sp_mr B a → m.ty a = 20 ∨ m.ty a = 21 ∨ m.ty a = 22) {G : sp_G} {P : Nat → Prop} {A : Nat → Nat} (hI : sp_I G P A m) (hP : ∀ a, sp_mr B a → P a) : sp_gd m A (sp_wm B) (fun _ => True) := by
  refine ⟨fun k a z => ?_, fun k a z => ?_, fun k a z => z.elim, fun L h1 h2 => ⟨fun z => ?_, fun z => z, fun ed he z => ?_⟩, fun nm b s q z => ?_⟩
  · have z : 832 ≤ k := z
    unfold sp_im; omega
  · have z : 832 ≤ k := z
    unfold sp_im; omega
  · have z : 832 ≤ 2 := z
    omega
  · have := sp_edk hI h1 he
    have := hrow _ z
    omega
  · obtain ⟨b', s', ⟨c1, c2, -⟩, n1, -⟩ := hI.J.2.2.2.1 nm q.1 (sp_e0 _)
    cases q.2.1.symm.trans c2
    exact n1 (hP _ z)
def sp_wp (A : Nat → Nat) : sp_W := (fun k _ => k = 129, fun _ _ => False, fun _ _ => False, fun a => a = A 8)
theorem sp_gd.put {G : sp_G} {P : Nat → Prop} {A : Nat → Nat} {m : sp_M} (hI : sp_I G P A m) (h8 : P (A 8)) : sp_gd m A (sp_wp A) (fun _ => True) := by
  refine ⟨fun k a z => ?_, fun k a z => z.elim, fun k a z => z.elim, fun L h1 h2 => ⟨fun z => ?_, fun z => z, fun ed he z => ?_⟩, fun nm b s q z => ?_⟩
  · have z : k = 129 := z
    unfold sp_im; omega
  · have z : 2 = 129 := z
    omega
  · have z : ed = A 8 := z
    have := sp_edk hI h1 he
    have := hI.S.k 8 20 (by decide)
    rw [← z] at this
    omega
  · have z : b = A 8 := z
    obtain ⟨b', s', ⟨c1, c2, -⟩, n1, -⟩ := hI.J.2.2.2.1 nm q.1 (sp_e0 _)
    cases q.2.1.symm.trans c2
    rw [z] at n1
    exact n1 h8
theorem sp_gd.w0 {m : sp_M} {A : Nat → Nat} (w : sp_W) (h1 : ∀ k a, w.1 k a → k = 129) (h2 : ∀ k a, w.2.1 k a → k = 580 ∨ k = 581) (h3 : ∀ k a, ¬ w.2.2.1 k a) (h4 : ∀ a, ¬ w.2.2.2 a) : sp_gd m A w (fun _ => True) := by
  refine ⟨fun k a z => ?_, fun k a z => ?_, fun k a z => absurd z (h3 k a), fun L _ _ => ⟨fun z => ?_, h3 _ _, fun ed _ => h4 ed⟩, fun nm b s _ => h4 b⟩
  · have := h1 k a z
    unfold sp_im; omega
  · have := h2 k a z
    unfold sp_im; omega
  · have := h1 _ _ z
    omega
theorem sp_cR.gd {G : sp_G} {P : Nat → Prop} {A : Nat → Nat} {m m' : sp_M} {w : sp_W} {Q : Nat → Prop} {R : Int32} (h : sp_cR m A R) (hI : sp_I G P A m) (hf : sp_fx m m' w) (hg : sp_gd m A w Q) : sp_cR m' A R :=
  h.fx hI.wf (hI.S.k 0 9 (by decide)) hf (fun k h1 h2 z => hg.1 k _ z (by unfold sp_im; omega))
theorem sp_pv.gd {G : sp_G} {P : Nat → Prop} {A : Nat → Nat} {m m' : sp_M} {w : sp_W} {Q : Nat → Prop} {pa num : Nat} {us : List (List Int32)} (h : sp_pv G m pa num us) (hI : sp_I G P A m) (hf : sp_fx m m' w) (hg : sp_gd m A w Q) : sp_pv G m' pa num us := by
  obtain ⟨L0, nn0, s0, r1, r2, r3, -⟩ := hI.J.2.2.2.2.2.1 pa h.1 (sp_e0 _)
  refine h.fx hI.wf hf (fun z => hg.1 _ _ z (by unfold sp_im; omega)) (fun z => hg.2.2.1 _ _ z (by unfold sp_im; omega)) (fun z => hg.2.2.1 _ _ z (by unfold sp_im; omega)) (fun L h1 h2 => ?_) (fun nm _ => ⟨fun z => hg.2.2.1 _ _ z (by unfold sp_im; omega), fun z => hg.2.2.1 _ _ z (by unfold sp_im; omega)⟩) hg.2.2.2.2
  have e : L0 = L := Option.some.inj (r1.symm.trans h1)
  rw [e] at r3
  exact hg.2.2.2.1 L h2 (Or.inl r3)
/-- the class's PATHS and TARGETS -/
def sp_cT (G : sp_G) (m : sp_M) (A : Nat → Nat) (R : Int32) (t : Nat) (TT : Nat → List Int32) : Prop := ∃ e3, sp_li G m (A 3) e3 t ∧ ∀ j, j < t → ∃ pa us, m.aR e3 j = some pa ∧ sp_us (fun i => (TT j).getD i 0) R (TT j).length us ∧ sp_pv G m pa j us ∧ sp_bo (m.fI 449 pa) (¬ sp_pb R ((TT j).getD 0 0) = 0)
theorem sp_cP.gd {G : sp_G} {P : Nat → Prop} {A : Nat → Nat} {m m' : sp_M} {w : sp_W} {Q : Nat → Prop} {p : Nat} {PT : Nat → List (List Int32)} (h : sp_cP G m A p PT) (hI : sp_I G P A m) (hf : sp_fx m m' w) (hg : sp_gd m A w Q) (hQ : Q 2) : sp_cP G m' A p PT := by
  obtain ⟨e2, h1, h2⟩ := h
  have g := hg.2.2.2.1 (A 2) h1.1 (Or.inr ⟨2, hQ, sp_ix2, rfl⟩)
  have le : e2 < m.nx := hI.wf e2 (by have := h1.2.2.2.2.2; omega)
  refine ⟨e2, hf.li hI.wf h1 g.1 g.2.1, fun j hj => ?_⟩
  obtain ⟨pa, q1, q2⟩ := h2 j hj
  exact ⟨pa, by rw [(hf.2.2.2.2.2 e2 le (g.2.2 e2 h1.2.1)).2.2]; exact q1, q2.gd hI hf hg⟩
theorem sp_cT.gd {G : sp_G} {P : Nat → Prop} {A : Nat → Nat} {m m' : sp_M} {w : sp_W} {Q : Nat → Prop} {R : Int32} {t : Nat} {TT : Nat → List Int32} (h : sp_cT G m A R t TT) (hI : sp_I G P A m) (hf : sp_fx m m' w) (hg : sp_gd m A w Q) (hQ : Q 3) : sp_cT G m' A R t TT := by
  obtain ⟨e3, h1, h2⟩ := h
  have g := hg.2.2.2.1 (A 3) h1.1 (Or.inr ⟨3, hQ, sp_ix3, rfl⟩)
  have le : e3 < m.nx := hI.wf e3 (by have := h1.2.2.2.2.2; omega)
  refine ⟨e3, hf.li hI.wf h1 g.1 g.2.1, fun j hj => ?_⟩
  obtain ⟨pa, us, q1, q2, q3, q4⟩ := h2 j hj
  exact ⟨pa, us, by rw [(hf.2.2.2.2.2 e3 le (g.2.2 e3 h1.2.1)).2.2]; exact q1, q2, q3.gd hI hf hg, by rw [hf.2.2.1 449 pa (hI.wf pa (by have := q3.1; omega)) (fun z => hg.1 _ _ z (by unfold sp_im; omega))]; exact q4⟩
/-- the class, as the law keeps it -/
def sp_CI (G : sp_G) (P : Nat → Prop) (A : Nat → Nat) (m : sp_M) (R : Int32) (D : Nat → Int32) (d p : Nat) (PT : Nat → List (List Int32)) (t : Nat) (TT : Nat → List Int32) (e : Nat) (l0 l1 : Int64) : Prop := sp_I G P A m ∧ P (A 8) ∧ sp_bn G m A ∧ sp_nob G m ∧ (m.fI 129 (A 1) = nI d ∧ ∀ j, j < d → m.aI (A 8) j = D j) ∧ (m.fL 580 (A 7) = l0 ∧ m.fL 581 (A 7) = l1) ∧ sp_cR m A R ∧ sp_cP G m A p PT ∧ sp_cT G m A R t TT ∧ m.fI 2 (A 4) = nI e
theorem sp_CI.gd {G : sp_G} {P : Nat → Prop} {A : Nat → Nat} {m m' : sp_M} {w : sp_W} {Q : Nat → Prop} {R : Int32} {D D' : Nat → Int32} {d d' p t e e' : Nat} {PT : Nat → List (List Int32)} {TT : Nat → List Int32} {l0 l1 l0' l1' : Int64} (h : sp_CI G P A m R D d p PT t TT e l0 l1) (hI' : sp_I G P A m') (hb : sp_bn G m' A) (hf : sp_fx m m' w) (hg : sp_gd m A w Q) (h2 : Q 2) (h3 : Q 3) (hd : m'.fI 129 (A 1) = nI d' ∧ ∀ j, j < d' → m'.aI (A 8) j = D' j) (hl : m'.fL 580 (A 7) = l0' ∧ m'.fL 581 (A 7) = l1') (he : m'.fI 2 (A 4) = nI e') : sp_CI G P A m' R D' d' p PT t TT e' l0' l1' := by
  obtain ⟨hI, h8, -, hO, -, -, hR, hP, hT, -⟩ := h
  exact ⟨hI', h8, hb, hf.nob hI.wf hO, hd, hl, hR.gd hI hf hg, hP.gd hI hf hg h2, hT.gd hI hf hg h3, he⟩
theorem sp_CI.dr {G : sp_G} {P : Nat → Prop} {A : Nat → Nat} {m : sp_M} {R : Int32} {D : Nat → Int32} {d p t e : Nat} {PT : Nat → List (List Int32)} {TT : Nat → List Int32} {l0 l1 : Int64} (h : sp_CI G P A m R D d p PT t TT e l0 l1) (hd : d ≤ 160) : sp_dr m (A 1) (A 8) d :=
  ⟨h.1.S.k 1 3 (by decide), h.1.S.p 128 1 8 (by decide), h.1.S.k 8 20 (by decide), h.1.S.2.2.2.1.1, h.2.2.2.2.1.1, hd⟩
theorem sp_CI.mf {B : Nat → Nat} {m : sp_M} (hrow : ∀ a, sp_mr B a → m.ty a = 20 ∨ m.ty a = 21 ∨ m.ty a = 22) {G : sp_G} {P : Nat → Prop} {A : Nat → Nat} {m' : sp_M} {R' : Int32} {D' : Nat → Int32} {d' p' t' e' : Nat} {PT : Nat → List (List Int32)} {TT : Nat → List Int32} {k0 k1 : Int64} (hC : sp_CI G P A m R' D' d' p' PT t' TT e' k0 k1) (h : sp_mf B m m') (hP : ∀ a, sp_mr B a → P a) (hA8 : ∀ k, (sp_mt k).1 ≠ 0 → B k ≠ A 8) : sp_CI G P A m' R' D' d' p' PT t' TT e' k0 k1 := by
  have hI := hC.1
  have hb := hC.2.2.1
  have h3 := hC.2.2.2.2.1
  have h4 := hC.2.2.2.2.2.1
  have hr : ∀ a, sp_mr B a → m.ty a ≠ 23 := fun a z => by have := hrow a z; omega
  obtain ⟨e9, s9, e10, s10, q9, q10, q⟩ := hb
  refine hC.gd (hI.mf h hP hr) ⟨e9, s9, e10, s10, h.fx.li hI.wf q9 (fun z => absurd z (by show ¬ 832 ≤ 2; decide)) (fun z => z), h.fx.li hI.wf q10 (fun z => absurd z (by show ¬ 832 ≤ 2; decide)) (fun z => z), q⟩ h.fx (sp_gd.mf hrow hI hP) trivial trivial ⟨?_, fun j hj => ?_⟩ ⟨?_, ?_⟩ (by rw [(h.2.2.2.2.2.1 2 _ (by decide)).1]; exact hC.2.2.2.2.2.2.2.2.2)
  · rw [(h.2.2.2.2.2.1 129 _ (by decide)).1]; exact h3.1
  · rw [(h.2.2.2.2.2.2 (A 8) (fun z => by
      obtain ⟨k, hk, e⟩ := z
      exact hA8 k hk e.symm)).1]
    exact h3.2 j hj
  · rw [(h.2.2.2.2.2.1 580 _ (by decide)).2]; exact h4.1
  · rw [(h.2.2.2.2.2.1 581 _ (by decide)).2]; exact h4.2
theorem sp_CI.F {G : sp_G} {P : Nat → Prop} {A : Nat → Nat} {m m' : sp_M} {R : Int32} {D : Nat → Int32} {d p t e : Nat} {PT : Nat → List (List Int32)} {TT : Nat → List Int32} {l0 l1 : Int64} {T : Nat → Prop} (hC : sp_CI G P A m R D d p PT t TT e l0 l1) (hI' : sp_I G P A m') (h : sp_F m m' A T) (hb : sp_bn G m' A) (h2 : ¬ T 2) (h3 : ¬ T 3) (hT4 : ¬ T 4) : sp_CI G P A m' R D d p PT t TT e l0 l1 := by
  have hI := hC.1
  have c3 := hC.2.2.2.2.1
  have c4 := hC.2.2.2.2.2.1
  have a1 : A 1 < m.nx := hI.wf _ (by rw [hI.S.k 1 3 (by decide)]; decide)
  have a7 : A 7 < m.nx := hI.wf _ (by rw [hI.S.k 7 10 (by decide)]; decide)
  have a8 : A 8 < m.nx := hI.wf _ (by rw [hI.S.k 8 20 (by decide)]; decide)
  refine hC.gd hI' hb h (sp_gd.F hI T) h2 h3 ⟨?_, fun j hj => ?_⟩ ⟨(h.2.2.2.1 580 _ a7 (fun z => absurd z.1 (by decide))).trans c4.1, (h.2.2.2.1 581 _ a7 (fun z => absurd z.1 (by decide))).trans c4.2⟩ (by
    have a4 : A 4 < m.nx := hI.wf _ (by rw [hI.S.k 4 1 (by decide)]; decide)
    rw [h.2.2.1 2 _ a4 (by rintro (z | z); exact sp_tl.o hI.S sp_ix4 hT4 z.2; omega)]
    exact hC.2.2.2.2.2.2.2.2.2)
  · rw [h.2.2.1 129 _ a1 (by rintro (z | z) <;> omega)]; exact c3.1
  · rw [(h.2.2.2.2.2 (A 8) a8 (fun z => by have := z.1; rw [hI.S.k 8 20 (by decide)] at this; omega)).1]; exact c3.2 j hj
/-- the draft is emptied -/
theorem sp_CI.z {G : sp_G} {P : Nat → Prop} {A : Nat → Nat} {m : sp_M} {R : Int32} {D : Nat → Int32} {d p t e : Nat} {PT : Nat → List (List Int32)} {TT : Nat → List Int32} {l0 l1 : Int64} (D' : Nat → Int32) (hC : sp_CI G P A m R D d p PT t TT e l0 l1) (hI' : sp_I G P A (m.pI 129 (A 1) 0)) (hb : sp_bn G (m.pI 129 (A 1) 0) A) : sp_CI G P A (m.pI 129 (A 1) 0) R D' 0 p PT t TT e l0 l1 :=
  hC.gd hI' hb ((sp_fx.refl m (fun k _ => k = 129, fun _ _ => False, fun _ _ => False, fun _ => False)).pI (Or.inl rfl)) (sp_gd.w0 _ (fun k a z => z) (fun k a z => z.elim) (fun k a z => z) (fun a z => z)) trivial trivial ⟨by rw [sp_pI_fI, if_pos ⟨rfl, rfl⟩]; rfl, fun j z => absurd z (Nat.not_lt_zero _)⟩ hC.2.2.2.2.2.1 (by rw [sp_pI_fI, if_neg (by omega)]; exact hC.2.2.2.2.2.2.2.2.2)
/-- the script -/
def sp_SI (m : sp_M) (sb N : Nat) (xs : Nat → Int32) : Prop := m.ty sb = 24 ∧ m.ln sb = N ∧ m.aI sb = xs
theorem sp_SI.fx {m m' : sp_M} {sb N : Nat} {xs : Nat → Int32} {f : sp_W} (h : sp_SI m sb N xs) (hw : sp_wf m) (hf : sp_fx m m' f) (h4 : ¬ f.2.2.2 sb) : sp_SI m' sb N xs := by
  have a : sb < m.nx := hw _ (by rw [h.1]; decide)
  exact ⟨by rw [(hf.2.1 _ a).1]; exact h.1, by rw [(hf.2.1 _ a).2]; exact h.2.1, by rw [(hf.2.2.2.2.2 _ a h4).1]; exact h.2.2⟩
theorem sp_SI.F {m m' : sp_M} {sb N : Nat} {xs : Nat → Int32} {A : Nat → Nat} {T : Nat → Prop} (h : sp_SI m sb N xs) (hw : sp_wf m) (hf : sp_F m m' A T) : sp_SI m' sb N xs := h.fx hw hf (fun z => by
  have z : m.ty sb = 23 := z.1
  have := h.1
  omega)
theorem sp_SI.mf {B : Nat → Nat} {m0 m : sp_M} {D : Nat → Int32} {R : Int32} {l0 l1 : Int64} {d n b p t e L w : Nat} {vq vm vl : Int32} {vs : Int64} {vA vE : Nat → Int64} {m' : sp_M} {sb N : Nat} {xs : Nat → Int32} (h : sp_SI m sb N xs) (hV : sp_V B m0 m D R l0 l1 d n b p t e L w vq vm vl vs vA vE) (hw : sp_wf m) (hf : sp_mf B m m') : sp_SI m' sb N xs := h.fx hw hf.fx (fun z => by
  have := hV.row z
  have := h.1
  omega)
theorem sp_l6 {N j : Nat} (hN : N ≤ 385) (hj : j ≤ 64) (h : ¬ nI N - 6 < nI (6 * j + 1)) : 6 * j + 7 ≤ N := by
  have e : (nI N - 6).toInt = (N : Int) - 6 := by
    rw [Int32.toInt_sub, nI_toInt (n := N) (by omega), show (6 : Int32).toInt = 6 from by decide +kernel]
    exact sp_tob _ (by omega) (by omega)
  rw [Int32.lt_iff_toInt_lt, e, nI_toInt (by omega)] at h
  omega
def sp_cel (N : Nat) (xs : Nat → Int32) : Int32 := if N = 0 then 0 else xs 0
set_option maxRecDepth 20000 in
theorem c_Law_cell (l : Launch) (G : sp_G) (m : sp_M) {sb N : Nat} {xs : Nat → Int32} (hs : sp_SI m sb N xs) (hN : N ≤ 385) : sp_C l G M_Law_cell 0 0 [.ref sb, .int 0] m (sp_oI fun v m' => v = sp_cel N xs ∧ m' = m) := by
  refine sp_enter (lv0 := [(0, false, va_rf (some sb)), (1, false, .int 0)]) "SafePathsLaw" false rfl (by decide) (fun h => by cases h) (Nat.le_of_ble_eq_true rfl) rfl ?_
  intro w X
  refine sp_iload_n X (pc := 0) (x := 0) dL_cell_0 rfl rfl ?_
  refine sp_aload_n X (pc := 1) (r := some sb) dL_cell_1 rfl rfl ?_
  refine sp_arraylength X (pc := 2) (a := sb) rfl (by have := hs.1; omega) dL_cell_2 ?_
  rw [show (Int32.ofNat (m.ln sb)) = (nI N) from (by rw [hs.2.1]; rfl)]
  refine sp_icmp_ge X (pc := 3) (tgt := 12) dL_cell_3 (by decide) (fun hb3 => ?_) (fun hb3 => ?_)
  · have h0 : N = 0 := by
      have := sp_nge (b := N) (a := 0) hb3 (by omega) (by omega)
      omega
    refine sp_iconst X (pc := 12) (v := 0) dL_cell_12 (by decide) ?_
    refine sp_ireturn X (pc := 13) dL_cell_13 rfl ⟨_, rfl, ?_⟩
    refine ⟨?_, rfl⟩
    unfold sp_cel
    first | exact (if_pos h0).symm | exact (if_neg (by omega)).symm
  · have h0 : 0 < N := sp_nlt (b := N) (a := 0) hb3 (by omega)
    refine sp_aload_n X (pc := 6) (r := some sb) dL_cell_6 rfl rfl ?_
    refine sp_iload_n X (pc := 7) (x := 0) dL_cell_7 rfl rfl ?_
    refine sp_iaload X (pc := 8) (a := sb) rfl (Or.inr hs.1) (sp_in 0 hs.2.1 (by omega) (by omega)) dL_cell_8 ?_
    rw [show (m.aI sb (Int32.toNatClampNeg 0)) = (xs 0) from (by rw [hs.2.2]; rfl)]
    refine sp_goto X (pc := 9) (tgt := 13) dL_cell_9 (by decide) ?_
    refine sp_ireturn X (pc := 13) dL_cell_13 rfl ⟨_, rfl, ?_⟩
    refine ⟨?_, rfl⟩
    unfold sp_cel
    first | exact (if_pos h0).symm | exact (if_neg (by omega)).symm
