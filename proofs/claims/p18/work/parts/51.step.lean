
theorem sp_stepM {G : sp_G} {P : Nat → Prop} {A B : Nat → Nat} {m m' : sp_M} {sb N : Nat} {xs : Nat → Int32} {D : Nat → Int32} {R : Int32} {l0 l1 : Int64} {d n b p t e ws : Nat} {vq vm vl : Int32} {vs : Int64} {vA vE : Nat → Int64} {Rc : Int32} {Dc : Nat → Int32} {dc pc tc ec : Nat} {PT : Nat → List (List Int32)} {TT : Nat → List Int32} {k0 k1 : Int64} {D' : Nat → Int32} {R' : Int32} {l0' l1' : Int64} {d' n' b' p' t' e' ws' : Nat} {vq' vm' vl' : Int32} {vs' : Int64} {vA' vE' : Nat → Int64} (hC : sp_CI G P A m Rc Dc dc pc PT tc TT ec k0 k1) (hV : sp_V B m m D R l0 l1 d n b p t e n ws vq vm vl vs vA vE) (hS : sp_SI m sb N xs) (hRI : ∀ a, sp_mr B a → P a) (hA8 : ∀ k, (sp_mt k).1 ≠ 0 → B k ≠ A 8) (hV' : sp_V B m m' D' R' l0' l1' d' n' b' p' t' e' n' ws' vq' vm' vl' vs' vA' vE') : sp_CI G P A m' Rc Dc dc pc PT tc TT ec k0 k1 ∧ sp_V B m' m' D' R' l0' l1' d' n' b' p' t' e' n' ws' vq' vm' vl' vs' vA' vE' ∧ sp_SI m' sb N xs :=
  ⟨sp_CI.mf (fun a z => hV.row z) hC hV'.mf hRI hA8, hV'.og, hS.mf hV hC.1.wf hV'.mf⟩
theorem sp_V.rk0 {B : Nat → Nat} {m0 m : sp_M} {D : Nat → Int32} {R : Int32} {l0 l1 : Int64} {d n b p t e L w : Nat} {vq vm vl : Int32} {vs : Int64} {vA vE : Nat → Int64} (h : sp_V B m0 m D R l0 l1 d n b p t e L w vq vm vl vs vA vE) {m' : sp_M} {f : sp_W} (hf : sp_fx m m' f) (hwf : sp_wf m) (h4 : ∀ k, (sp_mt k).1 ≠ 0 → ¬ f.2.2.2 (B k)) : sp_rk B [] m m' := fun k hk _ => (hf.2.2.2.2.2 (B k) (hwf _ (by rw [(h.r.q k hk).2.1]; exact hk)) (h4 k hk)).1
theorem sp_stepF {G : sp_G} {P : Nat → Prop} {A B : Nat → Nat} {m m' : sp_M} {sb N : Nat} {xs : Nat → Int32} {D : Nat → Int32} {R : Int32} {l0 l1 : Int64} {d n b p t e ws : Nat} {vq vm vl : Int32} {vs : Int64} {vA vE : Nat → Int64} {Rc : Int32} {Dc : Nat → Int32} {dc pc tc ec : Nat} {PT : Nat → List (List Int32)} {TT : Nat → List Int32} {k0 k1 : Int64} {T : Nat → Prop} (hC : sp_CI G P A m Rc Dc dc pc PT tc TT ec k0 k1) (hV : sp_V B m m D R l0 l1 d n b p t e n ws vq vm vl vs vA vE) (hS : sp_SI m sb N xs) (hI' : sp_I G P A m') (hF : sp_F m m' A T) (hb : sp_bn G m' A) (h2 : ¬ T 2) (h3 : ¬ T 3) (hT4 : ¬ T 4) : sp_CI G P A m' Rc Dc dc pc PT tc TT ec k0 k1 ∧ sp_V B m' m' D R l0 l1 d n b p t e n ws vq vm vl vs vA vE ∧ sp_SI m' sb N xs ∧ sp_rk B [] m m' :=
  ⟨hC.F hI' hF hb h2 h3 hT4, hV.F hF hC.1.wf, hS.F hC.1.wf hF, hV.rk0 hF hC.1.wf (fun k hk z => by
    have := z.1
    have := hV.row ⟨k, hk, rfl⟩
    omega)⟩
theorem sp_V.p129 {B : Nat → Nat} {m0 m : sp_M} {D : Nat → Int32} {R : Int32} {l0 l1 : Int64} {d n b p t e L w : Nat} {vq vm vl : Int32} {vs : Int64} {vA vE : Nat → Int64} (h : sp_V B m0 m D R l0 l1 d n b p t e L w vq vm vl vs vA vE) (a : Nat) (v : Int32) : sp_V B (m.pI 129 a v) (m.pI 129 a v) D R l0 l1 d n b p t e L w vq vm vl vs vA vE :=
  h.gen (sp_mf.refl _ _) ⟨h.r.o, h.r.q, h.r.ap⟩ (fun k hk => by rw [sp_pI_fI, if_neg (by omega)]) rfl (fun _ _ => rfl) (fun _ _ => rfl) (fun _ _ => rfl)
/-- the class's path(), target(): the draft is emptied -/
theorem sp_stepZ {G : sp_G} {P : Nat → Prop} {A B : Nat → Nat} {m m' : sp_M} {sb N : Nat} {xs : Nat → Int32} {D : Nat → Int32} {R : Int32} {l0 l1 : Int64} {d n b p t e ws : Nat} {vq vm vl : Int32} {vs : Int64} {vA vE : Nat → Int64} {Rc : Int32} {Dc : Nat → Int32} {dc pc tc ec : Nat} {PT : Nat → List (List Int32)} {TT : Nat → List Int32} {k0 k1 : Int64} {T : Nat → Prop} {mq : sp_M} (D' : Nat → Int32) {p' t' : Nat} {PT' : Nat → List (List Int32)} {TT' : Nat → List Int32} (hC : sp_CI G P A m Rc Dc dc pc PT tc TT ec k0 k1) (hV : sp_V B m m D R l0 l1 d n b p t e n ws vq vm vl vs vA vE) (hS : sp_SI m sb N xs) (hI' : sp_I G P A m') (hb : sp_bn G m' A) (hF : sp_F m mq A T) (hMQ : sp_I G P A mq) (hm : m' = mq.pI 129 (A 1) 0) (hP : sp_cP G mq A p' PT') (hT : sp_cT G mq A Rc t' TT') (hT4 : ¬ T 4) : sp_CI G P A m' Rc D' 0 p' PT' t' TT' ec k0 k1 ∧ sp_V B m' m' D R l0 l1 d n b p t e n ws vq vm vl vs vA vE ∧ sp_SI m' sb N xs ∧ sp_rk B [] m m' := by
  have hI := hC.1
  have a7 : A 7 < m.nx := hI.wf _ (by rw [hI.S.k 7 10 (by decide)]; decide)
  have c4 := hC.2.2.2.2.2.1
  have h9 := hS.F hI.wf hF
  have hO := hF.nob hI.wf hC.2.2.2.1
  have hR := hC.2.2.2.2.2.2.1.gd hI hF (sp_gd.F hI T)
  have hk := hV.rk0 hF hI.wf (fun k hk z => by
    have := z.1
    have := hV.row ⟨k, hk, rfl⟩
    omega)
  have a4 : A 4 < m.nx := hI.wf _ (by rw [hI.S.k 4 1 (by decide)]; decide)
  have e5 : mq.fI 2 (A 4) = nI ec := by
    rw [hF.2.2.1 2 _ a4 (by rintro (z | z); exact sp_tl.o hI.S sp_ix4 hT4 z.2; omega)]
    exact hC.2.2.2.2.2.2.2.2.2
  have l5 := (hF.2.2.2.1 580 _ a7 (fun z => absurd z.1 (by decide))).trans c4.1
  have l6 := (hF.2.2.2.1 581 _ a7 (fun z => absurd z.1 (by decide))).trans c4.2
  subst hm
  have hIq : sp_I G P A mq := hMQ
  have f2 := (sp_fx.refl mq (fun k _ => k = 129, fun _ _ => False, fun _ _ => False, fun _ => False)).pI (k := 129) (a := A 1) (v := 0) (Or.inl rfl)
  have g2 : sp_gd mq A (fun k _ => k = 129, fun _ _ => False, fun _ _ => False, fun _ => False) (fun _ => True) := sp_gd.w0 _ (fun k a z => z) (fun k a z => z.elim) (fun k a z => z) (fun a z => z)
  exact ⟨⟨hI', hC.2.1, hb, hO, ⟨by rw [sp_pI_fI, if_pos ⟨rfl, rfl⟩]; rfl, fun j z => absurd z (Nat.not_lt_zero _)⟩, ⟨l5, l6⟩, hR.gd hIq f2 g2, hP.gd hIq f2 g2 trivial, hT.gd hIq f2 g2 trivial, by rw [sp_pI_fI, if_neg (by omega)]; exact e5⟩, (hV.F hF hI.wf).p129 _ _, h9, hk⟩
theorem sp_stepP {G : sp_G} {P : Nat → Prop} {A B : Nat → Nat} {m m' : sp_M} {sb N : Nat} {xs : Nat → Int32} {D : Nat → Int32} {R : Int32} {l0 l1 : Int64} {d n b p t e ws : Nat} {vq vm vl : Int32} {vs : Int64} {vA vE : Nat → Int64} {Rc : Int32} {Dc : Nat → Int32} {dc pc tc ec : Nat} {PT : Nat → List (List Int32)} {TT : Nat → List Int32} {k0 k1 : Int64} {x : Int32} (hC : sp_CI G P A m Rc Dc dc pc PT tc TT ec k0 k1) (hV : sp_V B m m D R l0 l1 d n b p t e n ws vq vm vl vs vA vE) (hS : sp_SI m sb N xs) (hA8 : ∀ k, (sp_mt k).1 ≠ 0 → B k ≠ A 8) (hI' : sp_I G P A m') (hm : m' = (m.sI (A 8) dc x).pI 129 (A 1) (nI (dc + 1))) : sp_CI G P A m' Rc (fun i => if i = dc then x else Dc i) (dc + 1) pc PT tc TT ec k0 k1 ∧ sp_V B m' m' D R l0 l1 d n b p t e n ws vq vm vl vs vA vE ∧ sp_SI m' sb N xs ∧ sp_rk B [] m m' := by
  have hI := hC.1
  have hf : sp_fx m m' (sp_wp A) := by
    rw [hm]
    have a1 := (sp_fx.refl m (sp_wp A)).sI (a := A 8) (j := dc) (v := x) (Or.inl rfl)
    exact a1.pI (Or.inl rfl)
  obtain ⟨e9, s9, e10, s10, q9, q10, hq⟩ := hC.2.2.1
  refine ⟨hC.gd hI' ⟨e9, s9, e10, s10, hf.li hI.wf q9 (fun z => absurd z (by show ¬ 2 = 129; decide)) (fun z => z), hf.li hI.wf q10 (fun z => absurd z (by show ¬ 2 = 129; decide)) (fun z => z), hq⟩ hf (sp_gd.put hI hC.2.1) trivial trivial ⟨?_, fun j hj => ?_⟩ (by rw [hm]; exact hC.2.2.2.2.2.1) (by rw [hm, sp_pI_fI, if_neg (by omega)]; exact hC.2.2.2.2.2.2.2.2.2), hV.fr hf hI.wf (fun k a z => by have z : k = 129 := z; omega) (fun k a z => z.elim) (fun k a z => z.elim) (fun k hk z => hA8 k hk z), hS.fx hI.wf hf (fun z => ?_), hV.rk0 hf hI.wf (fun k hk z => hA8 k hk z)⟩
  · rw [hm, sp_pI_fI, if_pos ⟨rfl, rfl⟩]
  · rw [hm]
    show (m.sI (A 8) dc x).aI (A 8) j = _
    rw [sp_sI_aI]
    by_cases q : j = dc
    · rw [if_pos ⟨rfl, q⟩, if_pos q]
    · rw [if_neg (fun z => q z.2), if_neg q]
      exact hC.2.2.2.2.1.2 j (by omega)
  · have z : sb = A 8 := z
    have a1 := hS.1
    rw [z, hI.S.k 8 20 (by decide)] at a1
    omega
theorem sp_stepQ {G : sp_G} {P : Nat → Prop} {A B : Nat → Nat} {m m' : sp_M} {sb N : Nat} {xs : Nat → Int32} {D : Nat → Int32} {R : Int32} {l0 l1 : Int64} {d n b p t e ws : Nat} {vq vm vl : Int32} {vs : Int64} {vA vE : Nat → Int64} {Rc : Int32} {Dc : Nat → Int32} {dc pc tc ec : Nat} {PT : Nat → List (List Int32)} {TT : Nat → List Int32} {k0 k1 : Int64} {k : Nat} {z : Int64} (hC : sp_CI G P A m Rc Dc dc pc PT tc TT ec k0 k1) (hV : sp_V B m m D R l0 l1 d n b p t e n ws vq vm vl vs vA vE) (hS : sp_SI m sb N xs) (hk : k = 580 ∨ k = 581) (hm : m' = m.pL k (A 7) z) : sp_CI G P A m' Rc Dc dc pc PT tc TT ec (if k = 580 then z else k0) (if k = 580 then k1 else z) ∧ sp_V B m' m' D R l0 l1 d n b p t e n ws vq vm vl vs vA vE ∧ sp_SI m' sb N xs ∧ sp_rk B [] m m' := by
  have hI := hC.1
  have hf : sp_fx m m' (fun _ _ => False, fun q _ => q = k, fun _ _ => False, fun _ => False) := by
    rw [hm]
    exact (sp_fx.refl m (fun _ _ => False, fun q _ => q = k, fun _ _ => False, fun _ => False)).pL (Or.inl rfl)
  obtain ⟨e9, s9, e10, s10, q9, q10, hq⟩ := hC.2.2.1
  have c4 := hC.2.2.2.2.2.1
  refine ⟨hC.gd (by rw [hm]; exact hI.pL) ⟨e9, s9, e10, s10, hf.li hI.wf q9 (fun z => z) (fun z => z), hf.li hI.wf q10 (fun z => z) (fun z => z), hq⟩ hf (sp_gd.w0 _ (fun k a z => z.elim) (fun q a z => by have z : q = k := z; omega) (fun k a z => z) (fun a z => z)) trivial trivial (by rw [hm]; exact hC.2.2.2.2.1) ⟨?_, ?_⟩ (by rw [hm]; exact hC.2.2.2.2.2.2.2.2.2), hV.fr hf hI.wf (fun k a z => z.elim) (fun q a z => by have z : q = k := z; omega) (fun k a z => z.elim) (fun k hk z => z), hS.fx hI.wf hf (fun z => z), hV.rk0 hf hI.wf (fun k hk z => z)⟩
  · rw [hm, sp_pL_fL]
    rcases hk with rfl | rfl
    · rw [if_pos ⟨rfl, rfl⟩, if_pos rfl]
    · rw [if_neg (by omega), if_neg (by decide)]; exact c4.1
  · rw [hm, sp_pL_fL]
    rcases hk with rfl | rfl
    · rw [if_neg (by omega), if_pos rfl]; exact c4.2
    · rw [if_pos ⟨rfl, rfl⟩, if_neg (by decide)]
theorem sp_stepE {G : sp_G} {P : Nat → Prop} {A B : Nat → Nat} {m m' : sp_M} {sb N : Nat} {xs : Nat → Int32} {D : Nat → Int32} {R : Int32} {l0 l1 : Int64} {d n b p t e ws : Nat} {vq vm vl : Int32} {vs : Int64} {vA vE : Nat → Int64} {Rc : Int32} {Dc : Nat → Int32} {dc pc tc ec : Nat} {PT : Nat → List (List Int32)} {TT : Nat → List Int32} {k0 k1 : Int64} (hC : sp_CI G P A m Rc Dc dc pc PT tc TT ec k0 k1) (hV : sp_V B m m D R l0 l1 d n b p t e n ws vq vm vl vs vA vE) (hS : sp_SI m sb N xs) (hI' : sp_I G P A m') (hF : sp_F m m' A sp_T4) (hb : sp_bn G m' A) {e4 : Nat} (l4 : sp_li G m' (A 4) e4 (ec + 1)) : sp_CI G P A m' Rc Dc dc pc PT tc TT (ec + 1) k0 k1 ∧ sp_V B m' m' D R l0 l1 d n b p t e n ws vq vm vl vs vA vE ∧ sp_SI m' sb N xs ∧ sp_rk B [] m m' := by
  have hI := hC.1
  have c3 := hC.2.2.2.2.1
  have c4 := hC.2.2.2.2.2.1
  have a1 : A 1 < m.nx := hI.wf _ (by rw [hI.S.k 1 3 (by decide)]; decide)
  have a7 : A 7 < m.nx := hI.wf _ (by rw [hI.S.k 7 10 (by decide)]; decide)
  have a8 : A 8 < m.nx := hI.wf _ (by rw [hI.S.k 8 20 (by decide)]; decide)
  refine ⟨hC.gd hI' hb hF (sp_gd.F hI sp_T4) (by unfold sp_T4; decide) (by unfold sp_T4; decide) ⟨?_, fun j hj => ?_⟩ ⟨(hF.2.2.2.1 580 _ a7 (fun z => absurd z.1 (by decide))).trans c4.1, (hF.2.2.2.1 581 _ a7 (fun z => absurd z.1 (by decide))).trans c4.2⟩ l4.2.2.1, hV.F hF hI.wf, hS.F hI.wf hF, hV.rk0 hF hI.wf (fun k hk z => by
    have := z.1
    have := hV.row ⟨k, hk, rfl⟩
    omega)⟩
  · rw [hF.2.2.1 129 _ a1 (by rintro (z | z) <;> omega)]; exact c3.1
  · rw [(hF.2.2.2.2.2 (A 8) a8 (fun z => by have := z.1; rw [hI.S.k 8 20 (by decide)] at this; omega)).1]; exact c3.2 j hj
theorem sp_SI.rd {m : sp_M} {sb N : Nat} {xs : Nat → Int32} (h : sp_SI m sb N xs) {q : Nat} (hq : q < 2 ^ 31) : m.aI sb (nI q).toNatClampNeg = xs q := by rw [nI_clamp hq, h.2.2]
theorem sp_MC.rk {B : Nat → Nat} {l : List Nat} {m m' : sp_M} {p t : Nat} {PT : Nat → List (List Int32)} {TT : Nat → List Int32} (h : (sp_mP m B p PT ∧ sp_mT m B t TT)) (hr : sp_rk B l m m') (h1 : 18 ∉ l) (h2 : 19 ∉ l) (h3 : 20 ∉ l) (h4 : 22 ∉ l) (h5 : 23 ∉ l) : (sp_mP m' B p PT ∧ sp_mT m' B t TT) := ⟨h.1.rk hr h1 h2 h3, h.2.rk hr h4 h5⟩
/-- a PATH, a TARGET more -/
theorem sp_cP.more {G : sp_G} {P : Nat → Prop} {A : Nat → Nat} {m m1 : sp_M} {T : Nat → Prop} {p e2 e2' pa : Nat} {PT : Nat → List (List Int32)} {us : List (List Int32)} (h : sp_cP G m A p PT) (hI : sp_I G P A m) (hF : sp_F m m1 A T) (li : sp_li G m (A 2) e2 p) (l1 : sp_li G m1 (A 2) e2' (p + 1)) (ho : ∀ j, j < p → m1.aR e2' j = m.aR e2 j) (hn : m1.aR e2' p = some pa) (hv : sp_pv G m1 pa p us) : sp_cP G m1 A (p + 1) (fun j => if j = p then us else PT j) := by
  obtain ⟨e, h1, h2⟩ := h
  obtain ⟨rfl, -⟩ := sp_sz_fun h1 li
  refine ⟨e2', l1, fun j hj => ?_⟩
  dsimp only
  by_cases q : j = p
  · rw [if_pos q, q]
    exact ⟨pa, hn, hv⟩
  · rw [if_neg q]
    obtain ⟨pb, q1, q2⟩ := h2 j (by omega)
    exact ⟨pb, (ho j (by omega)).trans q1, q2.F hI hF⟩
theorem sp_cT.more {G : sp_G} {P : Nat → Prop} {A : Nat → Nat} {m m1 : sp_M} {T : Nat → Prop} {R : Int32} {t e3 e3' pa : Nat} {TT : Nat → List Int32} {u : List Int32} {us : List (List Int32)} (h : sp_cT G m A R t TT) (hI : sp_I G P A m) (hF : sp_F m m1 A T) (li : sp_li G m (A 3) e3 t) (l1 : sp_li G m1 (A 3) e3' (t + 1)) (ho : ∀ j, j < t → m1.aR e3' j = m.aR e3 j) (hn : m1.aR e3' t = some pa) (hv : sp_pv G m1 pa t us) (hu : sp_us (fun i => u.getD i 0) R u.length us) (hb : sp_bo (m1.fI 449 pa) (¬ sp_pb R (u.getD 0 0) = 0)) : sp_cT G m1 A R (t + 1) (fun j => if j = t then u else TT j) := by
  obtain ⟨e, h1, h2⟩ := h
  obtain ⟨rfl, -⟩ := sp_sz_fun h1 li
  refine ⟨e3', l1, fun j hj => ?_⟩
  dsimp only
  by_cases q : j = t
  · rw [if_pos q, q]
    exact ⟨pa, us, hn, hu, hv, hb⟩
  · rw [if_neg q]
    obtain ⟨pb, vs, q1, q2, q3, q4⟩ := h2 j (by omega)
    exact ⟨pb, vs, (ho j (by omega)).trans q1, q2, q3.F hI hF, by
      rw [hF.2.2.1 449 pb (hI.wf pb (by have := q3.1; omega)) (by rintro (z | z) <;> omega)]
      exact q4⟩
theorem sp_by.put {D : Nat → Int32} {d : Nat} {x : Int32} (h : sp_by D d) (hx : ¬ (x < 0 ∨ 255 < x)) : sp_by (fun i => if i = d then x else D i) (d + 1) := fun j hj => by
  show 0 ≤ (if j = d then x else D j) ∧ (if j = d then x else D j) ≤ 255
  by_cases q : j = d
  · rw [if_pos q]
    exact ⟨Int32.not_lt.mp (fun z => hx (Or.inl z)), Int32.not_lt.mp (fun z => hx (Or.inr z))⟩
  · rw [if_neg q]
    exact h j (by omega)
theorem pu_P.more {p d np : Nat} {R : Int32} {D : Nat → Int32} {PT : Nat → List (List Int32)} {us : List (List Int32)} (h : pu_P p PT) (hu : sp_us D R d us) (hok : pu_ok R D d np us) : pu_P (p + 1) (fun j => if j = p then us else PT j) := fun j hj => by
  show 1 ≤ (if j = p then us else PT j).length ∧ (if j = p then us else PT j).length ≤ 8 ∧ ∀ k, k < (if j = p then us else PT j).length → 1 ≤ ((if j = p then us else PT j).getD k []).length ∧ ((if j = p then us else PT j).getD k []).length ≤ 16
  by_cases q : j = p
  · rw [if_pos q]
    have z := hok.2.2.1.z rfl
    refine ⟨Nat.pos_of_ne_zero (fun q => hok.1 (List.length_eq_zero_iff.mp q)), Nat.le_of_not_lt (fun q => z.2.2 (Or.inl q)), fun k hk => ⟨hu.ne_ _ (sp_getD_mem hk), Nat.le_of_not_lt (fun q => z.2.2 (Or.inr ⟨_, sp_getD_mem hk, q⟩))⟩⟩
  · rw [if_neg q]
    exact h j (by omega)
theorem sp_li0 {G : sp_G} {P : Nat → Prop} {A : Nat → Nat} {m : sp_M} (hI : sp_I G P A m) {j s : Nat} (hj : sp_ix j) (h : m.fI 2 (A j) = nI s) (hs : s < 2 ^ 31) : ∃ e, sp_li G m (A j) e s := by
  obtain ⟨-, e, s', q, -⟩ := hI.S.2.2.1 j hj
  have : nI s' = nI s := q.2.2.1.symm.trans h
  have := sp_neq this (by have := q.2.2.2.1; have := q.2.2.2.2.1; omega) hs
  subst this
  exact ⟨e, q⟩
theorem sp_seg_fun (D : Nat → Int32) (d : Nat) : ∀ j, j < d → D j = (fun i => (sp_seg D 0 d).getD i 0) j := fun j hj => by
  show D j = (sp_seg D 0 d).getD j 0
  rw [sp_seg_get _ _ _ hj, Nat.zero_add]

def sp_gz (w : sp_W) (Q : Nat → Prop) : Prop := (Q 4 ∧ Q 9 ∧ Q 10 ∧ Q 16) ∧ (∀ k a, w.1 k a → k ≠ 326 ∧ k ≠ 327 ∧ k ≠ 582 ∧ k ≠ 776) ∧ ∀ k a, w.2.1 k a → k ≠ 583
theorem sp_nv.gd {m m' : sp_M} {A : Nat → Nat} {w : sp_W} {Q : Nat → Prop} {nm : Nat} {u : List Int32} (h : sp_nv m nm u) (hwf : sp_wf m) (hf : sp_fx m m' w) (hg : sp_gd m A w Q) : sp_nv m' nm u :=
  h.gen hwf hf (fun z => hg.2.2.1 _ _ z (by unfold sp_im; omega)) (fun z => hg.2.2.1 _ _ z (by unfold sp_im; omega)) (fun b s hn => hg.2.2.2.2 nm b s hn)
theorem sp_tv.gd {G : sp_G} {P : Nat → Prop} {A : Nat → Nat} {m m' : sp_M} {w : sp_W} {Q : Nat → Prop} {R : Int32} {ta tn : Nat} {u : List Int32} (h : sp_tv G m R ta tn u) (hI : sp_I G P A m) (hf : sp_fx m m' w) (hg : sp_gd m A w Q) : sp_tv G m' R ta tn u := by
  obtain ⟨us, h1, h2, h3⟩ := h
  exact ⟨us, h1, h2.gd hI hf hg, by rw [hf.2.2.1 449 ta (hI.wf ta (by have := h2.1; omega)) (fun z => hg.1 _ _ z (by unfold sp_im; omega))]; exact h3⟩
theorem sp_gd.row {G : sp_G} {P : Nat → Prop} {A : Nat → Nat} {m m' : sp_M} {w : sp_W} {Q : Nat → Prop} {i ed s : Nat} (hg : sp_gd m A w Q) (hI : sp_I G P A m) (hf : sp_fx m m' w) (hi : sp_ix i) (hQ : Q i) (hl : sp_li G m (A i) ed s) : sp_li G m' (A i) ed s ∧ m'.aR ed = m.aR ed := by
  have g := hg.2.2.2.1 (A i) hl.1 (Or.inr ⟨i, hQ, hi, rfl⟩)
  have le : ed < m.nx := hI.wf ed (by have := hl.2.2.2.2.2; omega)
  exact ⟨hf.li hI.wf hl g.1 g.2.1, (hf.2.2.2.2.2 ed le (g.2.2 ed hl.2.1)).2.2⟩
theorem sp_cN.gd {G : sp_G} {P : Nat → Prop} {A : Nat → Nat} {m m' : sp_M} {w : sp_W} {Q : Nat → Prop} {R : Int32} {TT : Nat → List Int32} {n : Nat} {T : pu_N} {NA BA : Nat → Nat} (h : sp_cN G m A R TT n T NA BA) (hI : sp_I G P A m) (hf : sp_fx m m' w) (hg : sp_gd m A w Q) (hz : sp_gz w Q) : sp_cN G m' A R TT n T NA BA := by
  obtain ⟨⟨e9, l1, l2⟩, h2, h3⟩ := h
  have q := hg.row hI hf sp_ix9 hz.1.2.1 l1
  refine ⟨⟨e9, q.1, fun j hj => by rw [q.2]; exact l2 j hj⟩, h2, fun j hj => ?_⟩
  obtain ⟨n1, n2, n3, ⟨nm, n4, n5⟩, ⟨n6, n7, n8⟩, n9, n10, n11⟩ := h3 j hj
  have hl : NA j < m.nx := hI.wf _ (by omega)
  have fI : ∀ k, sp_im k → m'.fI k (NA j) = m.fI k (NA j) := fun k hk => hf.2.2.1 k _ hl (fun z => hg.1 _ _ z hk)
  have fR : ∀ k, sp_im k → m'.fR k (NA j) = m.fR k (NA j) := fun k hk => hf.2.2.2.2.1 k _ hl (fun z => hg.2.2.1 _ _ z hk)
  refine ⟨hf.ty hI.wf n1 (by decide), ?_, ?_, ⟨nm, ?_, n5.gd hI.wf hf hg⟩, ⟨?_, ?_, ?_⟩, ?_, fun z => ?_, fun z => ?_⟩
  · rw [fI 320 (by unfold sp_im; omega)]; exact n2
  · rw [fR 321 (by unfold sp_im; omega)]; exact n3
  · rw [fR 322 (by unfold sp_im; omega)]; exact n4
  · rw [fI 325 (by unfold sp_im; omega)]; exact n6
  · rw [hf.2.2.1 326 _ hl (fun z => (hz.2.1 _ _ z).1 rfl)]; exact n7
  · rw [hf.2.2.1 327 _ hl (fun z => (hz.2.1 _ _ z).2.1 rfl)]; exact n8
  · rw [fR 323 (by unfold sp_im; omega)]; exact n9
  · rw [fR 324 (by unfold sp_im; omega)]; exact n10 z
  · obtain ⟨ta, z1, z2⟩ := n11 z
    exact ⟨ta, by rw [fR 324 (by unfold sp_im; omega)]; exact z1, z2.gd hI hf hg⟩
theorem sp_cZ.gd {G : sp_G} {P : Nat → Prop} {A : Nat → Nat} {m m' : sp_M} {w : sp_W} {Q : Nat → Prop} {R : Int32} {TT : Nat → List Int32} {Z : pu_Z} {NA BA : Nat → Nat} (h : sp_cZ G m A R TT Z NA BA) (hI : sp_I G P A m) (hf : sp_fx m m' w) (hg : sp_gd m A w Q) (hz : sp_gz w Q) : sp_cZ G m' A R TT Z NA BA := by
  obtain ⟨h1, ⟨⟨e10, l1, l2⟩, h2⟩, ⟨e16, k1, k2⟩, h4, h5⟩ := h
  have l7 := hI.lt 7 10 (by decide) (by decide)
  have q10 := hg.row hI hf sp_ix10 hz.1.2.2.1 l1
  have q16 := hg.row hI hf sp_ix16 hz.1.2.2.2 k1
  refine ⟨h1.gd hI hf hg hz, ⟨⟨e10, q10.1, fun j hj => by rw [q10.2]; exact l2 j hj⟩, fun j hj => ?_⟩, ⟨e16, q16.1, fun i hi => ?_⟩, ?_, ?_⟩
  · obtain ⟨c1, c2, c3, c4⟩ := h2 j hj
    have hl : BA j < m.nx := hI.wf _ (by omega)
    exact ⟨hf.ty hI.wf c1 (by decide), by rw [hf.2.2.1 _ _ hl (fun z => hg.1 _ _ z (by unfold sp_im; omega))]; exact c2, by rw [hf.2.2.2.1 _ _ hl (fun z => hg.2.1 _ _ z (by unfold sp_im; omega))]; exact c3, by rw [hf.2.2.1 _ _ hl (fun z => hg.1 _ _ z (by unfold sp_im; omega))]; exact c4⟩
  · obtain ⟨b, c1, c2, c3, c4⟩ := k2 i hi
    have hl : b < m.nx := hI.wf _ (by omega)
    exact ⟨b, by rw [q16.2]; exact c1, hf.ty hI.wf c2 (by decide), by rw [hf.2.2.2.2.1 _ _ hl (fun z => hg.2.2.1 _ _ z (by unfold sp_im; omega))]; exact c3, by rw [hf.2.2.1 _ _ hl (fun z => hg.1 _ _ z (by unfold sp_im; omega))]; exact c4⟩
  · rw [hf.2.2.1 _ _ l7 (fun z => (hz.2.1 _ _ z).2.2.1 rfl)]; exact h4
  · rw [hf.2.2.2.1 _ _ l7 (fun z => hz.2.2 _ _ z rfl)]; exact h5
theorem sp_cE.gd {G : sp_G} {P : Nat → Prop} {A : Nat → Nat} {m m' : sp_M} {w : sp_W} {Q : Nat → Prop} {R : Int32} {PT : Nat → List (List Int32)} {TT : Nat → List Int32} {ne : Nat} {E : pu_E} (h : sp_cE G m A R PT TT ne E) (hI : sp_I G P A m) (hf : sp_fx m m' w) (hg : sp_gd m A w Q) (hz : sp_gz w Q) : sp_cE G m' A R PT TT ne E := by
  obtain ⟨e4, l1, l2⟩ := h
  have q := hg.row hI hf sp_ix4' hz.1.1 l1
  refine ⟨e4, q.1, fun j hj => ?_⟩
  obtain ⟨ea, p, o, c1, c2, c3, c4, c5, c6, c7, c8, c9, c10⟩ := l2 j hj
  have hl : ea < m.nx := hI.wf _ (by omega)
  have fI : ∀ k, sp_im k → m'.fI k ea = m.fI k ea := fun k hk => hf.2.2.1 k _ hl (fun z => hg.1 _ _ z hk)
  have fR : ∀ k, sp_im k → m'.fR k ea = m.fR k ea := fun k hk => hf.2.2.2.2.1 k _ hl (fun z => hg.2.2.1 _ _ z hk)
  exact ⟨ea, p, o, by rw [q.2]; exact c1, hf.ty hI.wf c2 (by decide), by rw [fI 192 (by unfold sp_im; omega)]; exact c3, by rw [fR 193 (by unfold sp_im; omega)]; exact c4, by rw [fR 194 (by unfold sp_im; omega)]; exact c5, by rw [fI 195 (by unfold sp_im; omega)]; exact c6, by rw [hf.2.2.2.1 _ _ hl (fun z => hg.2.1 _ _ z (by unfold sp_im; omega))]; exact c7, c8.gd hI hf hg, fun z => (c9 z).gd hI hf hg, fun z => (c10 z).gd hI hf hg⟩
/-- the class's entries, tree, listed -/
def sp_KZ (G : sp_G) (A : Nat → Nat) (m : sp_M) (R : Int32) (PT : Nat → List (List Int32)) (TT : Nat → List Int32) (e : Nat) (E : pu_E) (Z : pu_Z) (ls : Int32) : Prop := sp_cE G m A R PT TT e E ∧ (∃ NA BA, sp_cZ G m A R TT Z NA BA) ∧ m.fI 776 (A 17) = ls
def sp_NZ (m : sp_M) (B : Nat → Nat) (n b e : Nat) (vq vm vl : Int32) (vs : Int64) (vA vE : Nat → Int64) (E : pu_E) (Z : pu_Z) (ls : Int32) : Prop := sp_mZ m B n b vq vm vs vA Z ∧ sp_mE m B e vE E ∧ vl = ls
def pu_XZ (p t e : Nat) (E : pu_E) (Z : pu_Z) (c : Nat) : Prop := pu_ZW t Z ∧ pu_EW p t e E ∧ Z.q.length ≤ c
theorem pu_XZ.up {p t e c c' : Nat} {E : pu_E} {Z : pu_Z} (h : pu_XZ p t e E Z c) (hc : c ≤ c') : pu_XZ p t e E Z c' := ⟨h.1, h.2.1, Nat.le_trans h.2.2 hc⟩
theorem sp_KZ.gd {G : sp_G} {P : Nat → Prop} {A : Nat → Nat} {m m' : sp_M} {w : sp_W} {Q : Nat → Prop} {R ls : Int32} {PT : Nat → List (List Int32)} {TT : Nat → List Int32} {e : Nat} {E : pu_E} {Z : pu_Z} (h : sp_KZ G A m R PT TT e E Z ls) (hI : sp_I G P A m) (hf : sp_fx m m' w) (hg : sp_gd m A w Q) (hz : sp_gz w Q) : sp_KZ G A m' R PT TT e E Z ls := by
  obtain ⟨h1, ⟨NA, BA, h2⟩, h3⟩ := h
  exact ⟨h1.gd hI hf hg hz, ⟨NA, BA, h2.gd hI hf hg hz⟩, by rw [hf.2.2.1 _ _ (hI.lt 17 13 (by decide) (by decide)) (fun z => (hz.2.1 _ _ z).2.2.2 rfl)]; exact h3⟩
theorem sp_KZ.mf {B : Nat → Nat} {m : sp_M} (hrow : ∀ a, sp_mr B a → m.ty a = 20 ∨ m.ty a = 21 ∨ m.ty a = 22) {G : sp_G} {P : Nat → Prop} {A : Nat → Nat} {m' : sp_M} {R ls : Int32} {PT : Nat → List (List Int32)} {TT : Nat → List Int32} {e : Nat} {E : pu_E} {Z : pu_Z} (h : sp_KZ G A m R PT TT e E Z ls) (hI : sp_I G P A m) (hf : sp_mf B m m') (hP : ∀ a, sp_mr B a → P a) : sp_KZ G A m' R PT TT e E Z ls :=
  h.gd hI hf.fx (sp_gd.mf hrow hI hP) ⟨⟨trivial, trivial, trivial, trivial⟩, fun k a z => by
    have z : 832 ≤ k := z
    omega, fun k a z => by
    have z : 832 ≤ k := z
    omega⟩
theorem sp_KZ.p129 {G : sp_G} {P : Nat → Prop} {A : Nat → Nat} {m : sp_M} {R ls : Int32} {PT : Nat → List (List Int32)} {TT : Nat → List Int32} {e : Nat} {E : pu_E} {Z : pu_Z} (h : sp_KZ G A m R PT TT e E Z ls) (hI : sp_I G P A m) (a : Nat) (v : Int32) : sp_KZ G A (m.pI 129 a v) R PT TT e E Z ls :=
  h.gd hI ((sp_fx.refl m (fun k _ => k = 129, fun _ _ => False, fun _ _ => False, fun _ => False)).pI (Or.inl rfl)) (sp_gd.w0 _ (fun k a z => z) (fun k a z => z.elim) (fun k a z => z) (fun a z => z)) ⟨⟨trivial, trivial, trivial, trivial⟩, fun k a z => by
    have z : k = 129 := z
    omega, fun k a z => z.elim⟩
theorem sp_KZ.put {G : sp_G} {P : Nat → Prop} {A : Nat → Nat} {m : sp_M} {R ls : Int32} {PT : Nat → List (List Int32)} {TT : Nat → List Int32} {e d : Nat} {E : pu_E} {Z : pu_Z} {x y : Int32} (h : sp_KZ G A m R PT TT e E Z ls) (hI : sp_I G P A m) (h8 : P (A 8)) : sp_KZ G A ((m.sI (A 8) d x).pI 129 (A 1) y) R PT TT e E Z ls := by
  have a1 := (sp_fx.refl m (sp_wp A)).sI (a := A 8) (j := d) (v := x) (Or.inl rfl)
  exact h.gd hI (a1.pI (Or.inl rfl)) (sp_gd.put hI h8) ⟨⟨trivial, trivial, trivial, trivial⟩, fun k a z => by
    have z : k = 129 := z
    omega, fun k a z => z.elim⟩
theorem sp_KZ.lim {G : sp_G} {P : Nat → Prop} {A : Nat → Nat} {m : sp_M} {R ls : Int32} {PT : Nat → List (List Int32)} {TT : Nat → List Int32} {e : Nat} {E : pu_E} {Z : pu_Z} {k a : Nat} {z : Int64} (h : sp_KZ G A m R PT TT e E Z ls) (hI : sp_I G P A m) (hk : k = 580 ∨ k = 581) : sp_KZ G A (m.pL k a z) R PT TT e E Z ls :=
  h.gd hI ((sp_fx.refl m (fun _ _ => False, fun q _ => q = k, fun _ _ => False, fun _ => False)).pL (Or.inl rfl)) (sp_gd.w0 _ (fun k a z => z.elim) (fun q a z => by
    have z : q = k := z
    omega) (fun k a z => z) (fun a z => z)) ⟨⟨trivial, trivial, trivial, trivial⟩, fun k a z => z.elim, fun q a z => by
    have z : q = k := z
    omega⟩
theorem sp_KZ.F {G : sp_G} {P : Nat → Prop} {A : Nat → Nat} {m m' : sp_M} {T : Nat → Prop} {R ls : Int32} {PT : Nat → List (List Int32)} {TT : Nat → List Int32} {e : Nat} {E : pu_E} {Z : pu_Z} (h : sp_KZ G A m R PT TT e E Z ls) (hI : sp_I G P A m) (hF : sp_F m m' A T) (h4 : ¬ T 4) (hQ : ¬ T 9 ∧ ¬ T 326 ∧ ¬ T 327 ∧ ¬ T 10 ∧ ¬ T 16 ∧ ¬ T 582 ∧ ¬ T 583) (h6 : ¬ T 776) : sp_KZ G A m' R PT TT e E Z ls := by
  obtain ⟨h1, ⟨NA, BA, h2⟩, h3⟩ := h
  exact ⟨h1.F hI hF h4, ⟨NA, BA, h2.F hI hF hQ⟩, by rw [hF.I (hI.lt 17 13 (by decide) (by decide)) (by decide) h6]; exact h3⟩
theorem sp_KZ.pt {G : sp_G} {A : Nat → Nat} {m : sp_M} {R ls : Int32} {PT PT' : Nat → List (List Int32)} {TT : Nat → List Int32} {p t e : Nat} {E : pu_E} {Z : pu_Z} (h : sp_KZ G A m R PT TT e E Z ls) (hE : pu_EW p t e E) (hP : ∀ j, j < p → PT' j = PT j) : sp_KZ G A m R PT' TT e E Z ls := by
  obtain ⟨⟨e4, l1, l2⟩, h2⟩ := h
  refine ⟨⟨e4, l1, fun j hj => ?_⟩, h2⟩
  obtain ⟨ea, pa, o, c1, c2, c3, c4, c5, c6, c7, c8, c9, c10⟩ := l2 j hj
  obtain ⟨w1, w2, w3, w4, w5⟩ := hE j hj
  exact ⟨ea, pa, o, c1, c2, c3, c4, c5, c6, c7, by rw [hP _ w2]; exact c8, c9, fun z => by
    rw [hP _ (w5.2 z)]
    exact c10 z⟩
theorem sp_KZ.tt {G : sp_G} {A : Nat → Nat} {m : sp_M} {R ls : Int32} {PT : Nat → List (List Int32)} {TT TT' : Nat → List Int32} {p t e : Nat} {E : pu_E} {Z : pu_Z} (h : sp_KZ G A m R PT TT e E Z ls) (hE : pu_EW p t e E) (hZ : pu_ZW t Z) (hT : ∀ j, j < t → TT' j = TT j) : sp_KZ G A m R PT TT' e E Z ls := by
  obtain ⟨⟨e4, l1, l2⟩, ⟨NA, BA, ⟨a1, a2, a3⟩, h2⟩, h3⟩ := h
  refine ⟨⟨e4, l1, fun j hj => ?_⟩, ⟨NA, BA, ⟨a1, a2, fun j hj => ?_⟩, h2⟩, h3⟩
  · obtain ⟨ea, pa, o, c1, c2, c3, c4, c5, c6, c7, c8, c9, c10⟩ := l2 j hj
    exact ⟨ea, pa, o, c1, c2, c3, c4, c5, c6, c7, c8, fun z => by
      rw [hT _ ((hE j hj).2.2.1 z).1]
      exact c9 z, c10⟩
  · obtain ⟨n1, n2, n3, n4, n6, n9, n10, n11⟩ := a3 j hj
    refine ⟨n1, n2, n3, n4, n6, n9, n10, fun z => ?_⟩
    obtain ⟨ta, z1, z2⟩ := n11 z
    refine ⟨ta, z1, ?_⟩
    have hl : Z.T.h j < t := by
      rcases hZ.1.2.2.2.1 j hj with q | ⟨q, -⟩ | ⟨-, q⟩
      · rw [q] at z; exact absurd z (by decide)
      · rw [q] at z; exact absurd z (by decide)
      · exact q
    rw [hT _ hl]
    exact z2
theorem sp_cZ.bn {G : sp_G} {m : sp_M} {A : Nat → Nat} {R : Int32} {TT : Nat → List Int32} {Z : pu_Z} {NA BA : Nat → Nat} {t : Nat} (h : sp_cZ G m A R TT Z NA BA) (hZ : pu_ZW t Z) : sp_bn G m A := by
  obtain ⟨⟨⟨e9, l9, -⟩, -⟩, ⟨⟨e10, l10, -⟩, -⟩, -⟩ := h
  exact ⟨e9, Z.n, e10, Z.b, l9, l10, hZ.2.2⟩
theorem sp_cT.TU {G : sp_G} {m : sp_M} {A : Nat → Nat} {R : Int32} {t : Nat} {TT : Nat → List Int32} (h : sp_cT G m A R t TT) : pu_TU R t TT := fun q hq => by
  obtain ⟨e3, -, h2⟩ := h
  obtain ⟨pa, us, -, h3, -⟩ := h2 q hq
  rw [pu_tp.eq h3]
  exact h3
/-- an entry more, in the class -/
theorem sp_KZ.more {G : sp_G} {P : Nat → Prop} {A : Nat → Nat} {m m' : sp_M} {R ls : Int32} {PT : Nat → List (List Int32)} {TT : Nat → List Int32} {p t e e2 e3 e4 e4' ea pa oa : Nat} {E : pu_E} {Z : pu_Z} {kd x y : Int32} {sz : Int64} (h : sp_KZ G A m R PT TT e E Z ls) (hI : sp_I G P A m) (hF : sp_F m m' A sp_T4) (hcP : sp_cP G m A p PT) (hcT : sp_cT G m A R t TT) (li2 : sp_li G m (A 2) e2 p) (li3 : sp_li G m (A 3) e3 t) (li4 : sp_li G m (A 4) e4 e) (l4 : sp_li G m' (A 4) e4' (e + 1)) (ho : ∀ j, j < e → m'.aR e4' j = m.aR e4 j) (hn : m'.aR e4' e = some ea) (hv : m'.ty ea = 4 ∧ m'.fI 192 ea = kd ∧ m'.fR 193 ea = some pa ∧ m'.fR 194 ea = some oa ∧ m'.fI 195 ea = y ∧ m'.fL 196 ea = sz) (hown : ∃ j, j < p ∧ x = nI j ∧ m.aR e2 j = some pa) (hoth : (kd = 2 ∧ ∃ j, j < t ∧ y = nI j ∧ m.aR e3 j = some oa) ∨ (kd = 3 ∧ ∃ j, j < p ∧ y = nI j ∧ m.aR e2 j = some oa) ∨ (¬ kd = 2 ∧ ¬ kd = 3 ∧ oa = pa)) : ∃ q xx, q < p ∧ x = nI q ∧ (kd = 2 → xx < t ∧ y = nI xx) ∧ (kd = 3 → xx < p ∧ y = nI xx) ∧ (¬ kd = 2 → xx < p) ∧ sp_KZ G A m' R PT TT (e + 1) (pu_Em E e kd q xx y sz) Z ls := by
  obtain ⟨e2a, g1, g2⟩ := hcP
  obtain ⟨rfl, -⟩ := sp_sz_fun g1 li2
  obtain ⟨e3a, g3, g4⟩ := hcT
  obtain ⟨rfl, -⟩ := sp_sz_fun g3 li3
  obtain ⟨q, hq, hx, hqa⟩ := hown
  have hpv : sp_pv G m pa q (PT q) := by
    obtain ⟨z, z1, z2⟩ := g2 q hq
    cases z1.symm.trans hqa
    exact z2
  obtain ⟨xx, k2, k3, kx, t2, t3⟩ : ∃ xx, (kd = 2 → xx < t ∧ y = nI xx) ∧ (kd = 3 → xx < p ∧ y = nI xx) ∧ (¬ kd = 2 → xx < p) ∧ (kd = 2 → sp_tv G m R oa xx (TT xx)) ∧ (¬ kd = 2 → sp_pv G m oa xx (PT xx)) := by
    rcases hoth with ⟨w1, j, w2, w3, w4⟩ | ⟨w1, j, w2, w3, w4⟩ | ⟨w1, w2, w3⟩
    · refine ⟨j, fun _ => ⟨w2, w3⟩, fun z => ?_, fun z => absurd w1 z, fun _ => ?_, fun z => absurd w1 z⟩
      · rw [w1] at z; exact absurd z (by decide)
      · obtain ⟨z, us, z1, z2, z3, z4⟩ := g4 j w2
        cases z1.symm.trans w4
        exact ⟨us, z2, z3, z4⟩
    · refine ⟨j, fun z => ?_, fun _ => ⟨w2, w3⟩, fun _ => w2, fun z => ?_, fun _ => ?_⟩
      · rw [w1] at z; exact absurd z (by decide)
      · rw [w1] at z; exact absurd z (by decide)
      · obtain ⟨z, z1, z2⟩ := g2 j w2
        cases z1.symm.trans w4
        exact z2
    · exact ⟨q, fun z => absurd z w1, fun z => absurd z w2, fun _ => hq, fun z => absurd z w1, fun _ => by rw [w3]; exact hpv⟩
  refine ⟨q, xx, hq, hx, k2, k3, kx, ?_⟩
  obtain ⟨⟨e4a, l1, l2⟩, ⟨NA, BA, h2⟩, h3⟩ := h
  obtain ⟨rfl, -⟩ := sp_sz_fun l1 li4
  refine ⟨⟨e4', l4, fun j hj => ?_⟩, ⟨NA, BA, h2.F hI hF (by unfold sp_T4; decide)⟩, by rw [hF.I (hI.lt 17 13 (by decide) (by decide)) (by decide) (by unfold sp_T4; decide)]; exact h3⟩
  by_cases z : j = e
  · subst z
    obtain ⟨n1, n2, n3, n4, n5⟩ := pu_Em.new (E := E) (e := j) (q := q) (x := xx) (k := kd) (v := y) (s := sz)
    rw [n1, n2, n3, n4, n5]
    obtain ⟨v1, v2, v3, v4, v5, v6⟩ := hv
    exact ⟨ea, pa, oa, hn, v1, v2, v3, v4, v5, v6, hpv.F hI hF, fun w9 => (t2 w9).F hI hF, fun w9 => (t3 w9).F hI hF⟩
  · obtain ⟨n1, n2, n3, n4, n5⟩ := pu_Em.old (E := E) (e := e) (q := q) (x := xx) (k := kd) (v := y) (s := sz) z
    rw [n1, n2, n3, n4, n5, ho j (by omega)]
    obtain ⟨eb, p9, o9, c1, c2, c3, c4, c5, c6, c7, c8, c9, c10⟩ := l2 j (by omega)
    have hl : eb < m.nx := hI.wf _ (by omega)
    exact ⟨eb, p9, o9, c1, hF.ty hI.wf c2 (by decide), by rw [hF.2.2.1 _ _ hl (by rintro (z | z); omega; omega)]; exact c3, by rw [hF.R hl (by decide)]; exact c4, by rw [hF.R hl (by decide)]; exact c5, by rw [hF.2.2.1 _ _ hl (by rintro (z | z); omega; omega)]; exact c6, by rw [hF.L hl (fun z => by omega)]; exact c7, c8.F hI hF, fun w9 => (c9 w9).F hI hF, fun w9 => (c10 w9).F hI hF⟩
theorem sp_NZ.rk {B : Nat → Nat} {l : List Nat} {m m' : sp_M} {n b e : Nat} {vq vm vl ls : Int32} {vs : Int64} {vA vE : Nat → Int64} {E : pu_E} {Z : pu_Z} (h : sp_NZ m B n b e vq vm vl vs vA vE E Z ls) (hr : sp_rk B l m m') (hl : ∀ k, k ∈ [4, 5, 6, 7, 8, 9, 10, 11, 12, 16, 25, 26, 27] → k ∉ l) : sp_NZ m' B n b e vq vm vl vs vA vE E Z ls :=
  ⟨h.1.rk hr (fun k hk => hl k (by revert hk; revert k; decide)), h.2.1.rk hr (hl 25 (by decide)) (hl 26 (by decide)) (hl 27 (by decide)), h.2.2⟩
theorem sp_mE.more {m m' : sp_M} {B : Nat → Nat} {e q xx : Nat} {vE : Nat → Int64} {E : pu_E} {kd x y : Int32} {z : Int64} (h : sp_mE m B e vE E) (hx : x = nI q) (hn : m'.aI (B 25) e = kd ∧ m'.aI (B 26) e = x ∧ m'.aI (B 27) e = y ∧ m'.aL (B 28) e = z) (ho : ∀ q, q ≠ e → m'.aI (B 25) q = m.aI (B 25) q ∧ m'.aI (B 26) q = m.aI (B 26) q ∧ m'.aI (B 27) q = m.aI (B 27) q ∧ m'.aL (B 28) q = m.aL (B 28) q) : sp_mE m' B (e + 1) (fun i => if i = e then z else vE i) (pu_Em E e kd q xx y z) := fun j hj => by
  dsimp only
  by_cases w9 : j = e
  · subst w9
    obtain ⟨n1, n2, n3, n4, n5⟩ := pu_Em.new (E := E) (e := j) (q := q) (x := xx) (k := kd) (v := y) (s := z)
    rw [n1, n2, n4, n5, if_pos rfl]
    exact ⟨hn.1, hn.2.1.trans hx, hn.2.2.1, rfl⟩
  · obtain ⟨n1, n2, n3, n4, n5⟩ := pu_Em.old (E := E) (e := e) (q := q) (x := xx) (k := kd) (v := y) (s := z) w9
    obtain ⟨c1, c2, c3, c4⟩ := h j (by omega)
    obtain ⟨o1, o2, o3, o4⟩ := ho j w9
    rw [n1, n2, n4, n5, if_neg w9, o1, o2, o3]
    exact ⟨c1, c2, c3, c4⟩
