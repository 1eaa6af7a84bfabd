
theorem sp_stepM {G : sp_G} {P : Nat → Prop} {A B : Nat → Nat} {m m' : sp_M} {sb N : Nat} {xs : Nat → Int32} {D : Nat → Int32} {R : Int32} {l0 l1 : Int64} {d n b p t e ws : Nat} {Rc : Int32} {Dc : Nat → Int32} {dc pc tc ec : Nat} {PT : Nat → List (List Int32)} {TT : Nat → List Int32} {k0 k1 : Int64} {D' : Nat → Int32} {R' : Int32} {l0' l1' : Int64} {d' n' b' p' t' e' ws' : Nat} (hC : sp_CI G P A m Rc Dc dc pc PT tc TT ec k0 k1) (hV : sp_V B m m D R l0 l1 d n b p t e n ws) (hS : sp_SI m sb N xs) (hRI : ∀ a, sp_mr B a → P a) (hA8 : ∀ k, (sp_mt k).1 ≠ 0 → B k ≠ A 8) (hV' : sp_V B m m' D' R' l0' l1' d' n' b' p' t' e' n' ws') : sp_CI G P A m' Rc Dc dc pc PT tc TT ec k0 k1 ∧ sp_V B m' m' D' R' l0' l1' d' n' b' p' t' e' n' ws' ∧ sp_SI m' sb N xs :=
  ⟨sp_CI.mf (fun a z => hV.row z) hC hV'.mf hRI hA8, hV'.og, hS.mf hV hC.1.wf hV'.mf⟩
theorem sp_V.rk0 {B : Nat → Nat} {m0 m : sp_M} {D : Nat → Int32} {R : Int32} {l0 l1 : Int64} {d n b p t e L w : Nat} (h : sp_V B m0 m D R l0 l1 d n b p t e L w) {m' : sp_M} {f : sp_W} (hf : sp_fx m m' f) (hwf : sp_wf m) (h4 : ∀ k, (sp_mt k).1 ≠ 0 → ¬ f.2.2.2 (B k)) : sp_rk B [] m m' := fun k hk _ => (hf.2.2.2.2.2 (B k) (hwf _ (by rw [(h.r.q k hk).2.1]; exact hk)) (h4 k hk)).1
theorem sp_stepF {G : sp_G} {P : Nat → Prop} {A B : Nat → Nat} {m m' : sp_M} {sb N : Nat} {xs : Nat → Int32} {D : Nat → Int32} {R : Int32} {l0 l1 : Int64} {d n b p t e ws : Nat} {Rc : Int32} {Dc : Nat → Int32} {dc pc tc ec : Nat} {PT : Nat → List (List Int32)} {TT : Nat → List Int32} {k0 k1 : Int64} {T : Nat → Prop} (hC : sp_CI G P A m Rc Dc dc pc PT tc TT ec k0 k1) (hV : sp_V B m m D R l0 l1 d n b p t e n ws) (hS : sp_SI m sb N xs) (hI' : sp_I G P A m') (hF : sp_F m m' A T) (hb : sp_bn G m' A) (h2 : ¬ T 2) (h3 : ¬ T 3) (hT4 : ¬ T 4) : sp_CI G P A m' Rc Dc dc pc PT tc TT ec k0 k1 ∧ sp_V B m' m' D R l0 l1 d n b p t e n ws ∧ sp_SI m' sb N xs ∧ sp_rk B [] m m' :=
  ⟨hC.F hI' hF hb h2 h3 hT4, hV.F hF hC.1.wf, hS.F hC.1.wf hF, hV.rk0 hF hC.1.wf (fun k hk z => by
    have := z.1
    have := hV.row ⟨k, hk, rfl⟩
    omega)⟩
theorem sp_V.p129 {B : Nat → Nat} {m0 m : sp_M} {D : Nat → Int32} {R : Int32} {l0 l1 : Int64} {d n b p t e L w : Nat} (h : sp_V B m0 m D R l0 l1 d n b p t e L w) (a : Nat) (v : Int32) : sp_V B (m.pI 129 a v) (m.pI 129 a v) D R l0 l1 d n b p t e L w :=
  h.gen (sp_mf.refl _ _) ⟨h.r.o, h.r.q, h.r.ap⟩ (fun k hk => by rw [sp_pI_fI, if_neg (by omega)]) rfl (fun _ _ => rfl) (fun _ _ => rfl)
/-- the class's path(), target(): the draft is emptied -/
theorem sp_stepZ {G : sp_G} {P : Nat → Prop} {A B : Nat → Nat} {m m' : sp_M} {sb N : Nat} {xs : Nat → Int32} {D : Nat → Int32} {R : Int32} {l0 l1 : Int64} {d n b p t e ws : Nat} {Rc : Int32} {Dc : Nat → Int32} {dc pc tc ec : Nat} {PT : Nat → List (List Int32)} {TT : Nat → List Int32} {k0 k1 : Int64} {T : Nat → Prop} {mq : sp_M} (D' : Nat → Int32) {p' t' : Nat} {PT' : Nat → List (List Int32)} {TT' : Nat → List Int32} (hC : sp_CI G P A m Rc Dc dc pc PT tc TT ec k0 k1) (hV : sp_V B m m D R l0 l1 d n b p t e n ws) (hS : sp_SI m sb N xs) (hI' : sp_I G P A m') (hb : sp_bn G m' A) (hF : sp_F m mq A T) (hMQ : sp_I G P A mq) (hm : m' = mq.pI 129 (A 1) 0) (hP : sp_cP G mq A p' PT') (hT : sp_cT G mq A Rc t' TT') (hT4 : ¬ T 4) : sp_CI G P A m' Rc D' 0 p' PT' t' TT' ec k0 k1 ∧ sp_V B m' m' D R l0 l1 d n b p t e n ws ∧ sp_SI m' sb N xs ∧ sp_rk B [] m m' := by
  have hI := hC.1
  have a7 : A 7 < m.nx := hI.wf _ (by rw [hI.S.k 7 10 (by decide)]; decide)
  have c4 := hC.2.2.2.2.2.1
  have h9 := hS.F hI.wf hF
  have hO := hF.nob hI.wf hC.2.2.2.1
  have hR := hC.2.2.2.2.2.2.1.gd hI hF (sp_gd.F hI T)
  have hk := hV.rk0 hF hI.wf (fun k hk z => by
    have := z.1
    have := hV.row ⟨k, hk, rfl⟩
    omega)
  have a4 : A 4 < m.nx := hI.wf _ (by rw [hI.S.k 4 1 (by decide)]; decide)
  have e5 : mq.fI 2 (A 4) = nI ec := by
    rw [hF.2.2.1 2 _ a4 (by rintro (z | z); exact sp_tl.o hI.S sp_ix4 hT4 z.2; omega)]
    exact hC.2.2.2.2.2.2.2.2.2
  have l5 := (hF.2.2.2.1 580 _ a7 (fun z => absurd z (by show ¬ 580 = 583; decide))).trans c4.1
  have l6 := (hF.2.2.2.1 581 _ a7 (fun z => absurd z (by show ¬ 581 = 583; decide))).trans c4.2
  subst hm
  have hIq : sp_I G P A mq := hMQ
  have f2 := (sp_fx.refl mq (fun k _ => k = 129, fun _ _ => False, fun _ _ => False, fun _ => False)).pI (k := 129) (a := A 1) (v := 0) (Or.inl rfl)
  have g2 : sp_gd mq A (fun k _ => k = 129, fun _ _ => False, fun _ _ => False, fun _ => False) (fun _ => True) := sp_gd.w0 _ (fun k a z => z) (fun k a z => z.elim) (fun k a z => z) (fun a z => z)
  exact ⟨⟨hI', hC.2.1, hb, hO, ⟨by rw [sp_pI_fI, if_pos ⟨rfl, rfl⟩]; rfl, fun j z => absurd z (Nat.not_lt_zero _)⟩, ⟨l5, l6⟩, hR.gd hIq f2 g2, hP.gd hIq f2 g2 trivial, hT.gd hIq f2 g2 trivial, by rw [sp_pI_fI, if_neg (by omega)]; exact e5⟩, (hV.F hF hI.wf).p129 _ _, h9, hk⟩
theorem sp_stepP {G : sp_G} {P : Nat → Prop} {A B : Nat → Nat} {m m' : sp_M} {sb N : Nat} {xs : Nat → Int32} {D : Nat → Int32} {R : Int32} {l0 l1 : Int64} {d n b p t e ws : Nat} {Rc : Int32} {Dc : Nat → Int32} {dc pc tc ec : Nat} {PT : Nat → List (List Int32)} {TT : Nat → List Int32} {k0 k1 : Int64} {x : Int32} (hC : sp_CI G P A m Rc Dc dc pc PT tc TT ec k0 k1) (hV : sp_V B m m D R l0 l1 d n b p t e n ws) (hS : sp_SI m sb N xs) (hA8 : ∀ k, (sp_mt k).1 ≠ 0 → B k ≠ A 8) (hI' : sp_I G P A m') (hm : m' = (m.sI (A 8) dc x).pI 129 (A 1) (nI (dc + 1))) : sp_CI G P A m' Rc (fun i => if i = dc then x else Dc i) (dc + 1) pc PT tc TT ec k0 k1 ∧ sp_V B m' m' D R l0 l1 d n b p t e n ws ∧ sp_SI m' sb N xs ∧ sp_rk B [] m m' := by
  have hI := hC.1
  have hf : sp_fx m m' (sp_wp A) := by
    rw [hm]
    have a1 := (sp_fx.refl m (sp_wp A)).sI (a := A 8) (j := dc) (v := x) (Or.inl rfl)
    exact a1.pI (Or.inl rfl)
  obtain ⟨e9, s9, e10, s10, q9, q10, hq⟩ := hC.2.2.1
  refine ⟨hC.gd hI' ⟨e9, s9, e10, s10, hf.li hI.wf q9 (fun z => absurd z (by show ¬ 2 = 129; decide)) (fun z => z), hf.li hI.wf q10 (fun z => absurd z (by show ¬ 2 = 129; decide)) (fun z => z), hq⟩ hf (sp_gd.put hI hC.2.1) trivial trivial ⟨?_, fun j hj => ?_⟩ (by rw [hm]; exact hC.2.2.2.2.2.1) (by rw [hm, sp_pI_fI, if_neg (by omega)]; exact hC.2.2.2.2.2.2.2.2.2), hV.fr hf hI.wf (fun k a z => by have z : k = 129 := z; omega) (fun k a z => z.elim) (fun k a z => z.elim) (fun k hk z => hA8 k hk z), hS.fx hI.wf hf (fun z => ?_), hV.rk0 hf hI.wf (fun k hk z => hA8 k hk z)⟩
  · rw [hm, sp_pI_fI, if_pos ⟨rfl, rfl⟩]
  · rw [hm]
    show (m.sI (A 8) dc x).aI (A 8) j = _
    rw [sp_sI_aI]
    by_cases q : j = dc
    · rw [if_pos ⟨rfl, q⟩, if_pos q]
    · rw [if_neg (fun z => q z.2), if_neg q]
      exact hC.2.2.2.2.1.2 j (by omega)
  · have z : sb = A 8 := z
    have a1 := hS.1
    rw [z, hI.S.k 8 20 (by decide)] at a1
    omega
theorem sp_stepQ {G : sp_G} {P : Nat → Prop} {A B : Nat → Nat} {m m' : sp_M} {sb N : Nat} {xs : Nat → Int32} {D : Nat → Int32} {R : Int32} {l0 l1 : Int64} {d n b p t e ws : Nat} {Rc : Int32} {Dc : Nat → Int32} {dc pc tc ec : Nat} {PT : Nat → List (List Int32)} {TT : Nat → List Int32} {k0 k1 : Int64} {k : Nat} {z : Int64} (hC : sp_CI G P A m Rc Dc dc pc PT tc TT ec k0 k1) (hV : sp_V B m m D R l0 l1 d n b p t e n ws) (hS : sp_SI m sb N xs) (hk : k = 580 ∨ k = 581) (hm : m' = m.pL k (A 7) z) : sp_CI G P A m' Rc Dc dc pc PT tc TT ec (if k = 580 then z else k0) (if k = 580 then k1 else z) ∧ sp_V B m' m' D R l0 l1 d n b p t e n ws ∧ sp_SI m' sb N xs ∧ sp_rk B [] m m' := by
  have hI := hC.1
  have hf : sp_fx m m' (fun _ _ => False, fun q _ => q = k, fun _ _ => False, fun _ => False) := by
    rw [hm]
    exact (sp_fx.refl m (fun _ _ => False, fun q _ => q = k, fun _ _ => False, fun _ => False)).pL (Or.inl rfl)
  obtain ⟨e9, s9, e10, s10, q9, q10, hq⟩ := hC.2.2.1
  have c4 := hC.2.2.2.2.2.1
  refine ⟨hC.gd (by rw [hm]; exact hI.pL) ⟨e9, s9, e10, s10, hf.li hI.wf q9 (fun z => z) (fun z => z), hf.li hI.wf q10 (fun z => z) (fun z => z), hq⟩ hf (sp_gd.w0 _ (fun k a z => z.elim) (fun q a z => by have z : q = k := z; omega) (fun k a z => z) (fun a z => z)) trivial trivial (by rw [hm]; exact hC.2.2.2.2.1) ⟨?_, ?_⟩ (by rw [hm]; exact hC.2.2.2.2.2.2.2.2.2), hV.fr hf hI.wf (fun k a z => z.elim) (fun q a z => by have z : q = k := z; omega) (fun k a z => z.elim) (fun k hk z => z), hS.fx hI.wf hf (fun z => z), hV.rk0 hf hI.wf (fun k hk z => z)⟩
  · rw [hm, sp_pL_fL]
    rcases hk with rfl | rfl
    · rw [if_pos ⟨rfl, rfl⟩, if_pos rfl]
    · rw [if_neg (by omega), if_neg (by decide)]; exact c4.1
  · rw [hm, sp_pL_fL]
    rcases hk with rfl | rfl
    · rw [if_neg (by omega), if_pos rfl]; exact c4.2
    · rw [if_pos ⟨rfl, rfl⟩, if_neg (by decide)]
theorem sp_stepE {G : sp_G} {P : Nat → Prop} {A B : Nat → Nat} {m m' : sp_M} {sb N : Nat} {xs : Nat → Int32} {D : Nat → Int32} {R : Int32} {l0 l1 : Int64} {d n b p t e ws : Nat} {Rc : Int32} {Dc : Nat → Int32} {dc pc tc ec : Nat} {PT : Nat → List (List Int32)} {TT : Nat → List Int32} {k0 k1 : Int64} (hC : sp_CI G P A m Rc Dc dc pc PT tc TT ec k0 k1) (hV : sp_V B m m D R l0 l1 d n b p t e n ws) (hS : sp_SI m sb N xs) (hI' : sp_I G P A m') (hF : sp_F m m' A sp_T4) (hb : sp_bn G m' A) {e4 : Nat} (l4 : sp_li G m' (A 4) e4 (ec + 1)) : sp_CI G P A m' Rc Dc dc pc PT tc TT (ec + 1) k0 k1 ∧ sp_V B m' m' D R l0 l1 d n b p t e n ws ∧ sp_SI m' sb N xs ∧ sp_rk B [] m m' := by
  have hI := hC.1
  have c3 := hC.2.2.2.2.1
  have c4 := hC.2.2.2.2.2.1
  have a1 : A 1 < m.nx := hI.wf _ (by rw [hI.S.k 1 3 (by decide)]; decide)
  have a7 : A 7 < m.nx := hI.wf _ (by rw [hI.S.k 7 10 (by decide)]; decide)
  have a8 : A 8 < m.nx := hI.wf _ (by rw [hI.S.k 8 20 (by decide)]; decide)
  refine ⟨hC.gd hI' hb hF (sp_gd.F hI sp_T4) (by unfold sp_T4; decide) (by unfold sp_T4; decide) ⟨?_, fun j hj => ?_⟩ ⟨(hF.2.2.2.1 580 _ a7 (fun z => absurd z (by show ¬ 580 = 583; decide))).trans c4.1, (hF.2.2.2.1 581 _ a7 (fun z => absurd z (by show ¬ 581 = 583; decide))).trans c4.2⟩ l4.2.2.1, hV.F hF hI.wf, hS.F hI.wf hF, hV.rk0 hF hI.wf (fun k hk z => by
    have := z.1
    have := hV.row ⟨k, hk, rfl⟩
    omega)⟩
  · rw [hF.2.2.1 129 _ a1 (by rintro (z | z) <;> omega)]; exact c3.1
  · rw [(hF.2.2.2.2.2 (A 8) a8 (fun z => by have := z.1; rw [hI.S.k 8 20 (by decide)] at this; omega)).1]; exact c3.2 j hj
theorem sp_SI.rd {m : sp_M} {sb N : Nat} {xs : Nat → Int32} (h : sp_SI m sb N xs) {q : Nat} (hq : q < 2 ^ 31) : m.aI sb (nI q).toNatClampNeg = xs q := by rw [nI_clamp hq, h.2.2]
theorem sp_MC.rk {B : Nat → Nat} {l : List Nat} {m m' : sp_M} {p t : Nat} {PT : Nat → List (List Int32)} {TT : Nat → List Int32} (h : (sp_mP m B p PT ∧ sp_mT m B t TT)) (hr : sp_rk B l m m') (h1 : 18 ∉ l) (h2 : 19 ∉ l) (h3 : 20 ∉ l) (h4 : 22 ∉ l) (h5 : 23 ∉ l) : (sp_mP m' B p PT ∧ sp_mT m' B t TT) := ⟨h.1.rk hr h1 h2 h3, h.2.rk hr h4 h5⟩
/-- a PATH, a TARGET more -/
theorem sp_cP.more {G : sp_G} {P : Nat → Prop} {A : Nat → Nat} {m m1 : sp_M} {T : Nat → Prop} {p e2 e2' pa : Nat} {PT : Nat → List (List Int32)} {us : List (List Int32)} (h : sp_cP G m A p PT) (hI : sp_I G P A m) (hF : sp_F m m1 A T) (li : sp_li G m (A 2) e2 p) (l1 : sp_li G m1 (A 2) e2' (p + 1)) (ho : ∀ j, j < p → m1.aR e2' j = m.aR e2 j) (hn : m1.aR e2' p = some pa) (hv : sp_pv G m1 pa p us) : sp_cP G m1 A (p + 1) (fun j => if j = p then us else PT j) := by
  obtain ⟨e, h1, h2⟩ := h
  obtain ⟨rfl, -⟩ := sp_sz_fun h1 li
  refine ⟨e2', l1, fun j hj => ?_⟩
  dsimp only
  by_cases q : j = p
  · rw [if_pos q, q]
    exact ⟨pa, hn, hv⟩
  · rw [if_neg q]
    obtain ⟨pb, q1, q2⟩ := h2 j (by omega)
    exact ⟨pb, (ho j (by omega)).trans q1, q2.F hI hF⟩
theorem sp_cT.more {G : sp_G} {P : Nat → Prop} {A : Nat → Nat} {m m1 : sp_M} {T : Nat → Prop} {R : Int32} {t e3 e3' pa : Nat} {TT : Nat → List Int32} {u : List Int32} {us : List (List Int32)} (h : sp_cT G m A R t TT) (hI : sp_I G P A m) (hF : sp_F m m1 A T) (li : sp_li G m (A 3) e3 t) (l1 : sp_li G m1 (A 3) e3' (t + 1)) (ho : ∀ j, j < t → m1.aR e3' j = m.aR e3 j) (hn : m1.aR e3' t = some pa) (hv : sp_pv G m1 pa t us) (hu : sp_us (fun i => u.getD i 0) R u.length us) (hb : sp_bo (m1.fI 449 pa) (¬ sp_pb R (u.getD 0 0) = 0)) : sp_cT G m1 A R (t + 1) (fun j => if j = t then u else TT j) := by
  obtain ⟨e, h1, h2⟩ := h
  obtain ⟨rfl, -⟩ := sp_sz_fun h1 li
  refine ⟨e3', l1, fun j hj => ?_⟩
  dsimp only
  by_cases q : j = t
  · rw [if_pos q, q]
    exact ⟨pa, us, hn, hu, hv, hb⟩
  · rw [if_neg q]
    obtain ⟨pb, vs, q1, q2, q3, q4⟩ := h2 j (by omega)
    exact ⟨pb, vs, (ho j (by omega)).trans q1, q2, q3.F hI hF, by
      rw [hF.2.2.1 449 pb (hI.wf pb (by have := q3.1; omega)) (by rintro (z | z) <;> omega)]
      exact q4⟩
theorem sp_by.put {D : Nat → Int32} {d : Nat} {x : Int32} (h : sp_by D d) (hx : ¬ (x < 0 ∨ 255 < x)) : sp_by (fun i => if i = d then x else D i) (d + 1) := fun j hj => by
  show 0 ≤ (if j = d then x else D j) ∧ (if j = d then x else D j) ≤ 255
  by_cases q : j = d
  · rw [if_pos q]
    exact ⟨Int32.not_lt.mp (fun z => hx (Or.inl z)), Int32.not_lt.mp (fun z => hx (Or.inr z))⟩
  · rw [if_neg q]
    exact h j (by omega)
theorem pu_P.more {p d np : Nat} {R : Int32} {D : Nat → Int32} {PT : Nat → List (List Int32)} {us : List (List Int32)} (h : pu_P p PT) (hu : sp_us D R d us) (hok : pu_ok R D d np us) : pu_P (p + 1) (fun j => if j = p then us else PT j) := fun j hj => by
  show 1 ≤ (if j = p then us else PT j).length ∧ (if j = p then us else PT j).length ≤ 8 ∧ ∀ k, k < (if j = p then us else PT j).length → 1 ≤ ((if j = p then us else PT j).getD k []).length ∧ ((if j = p then us else PT j).getD k []).length ≤ 16
  by_cases q : j = p
  · rw [if_pos q]
    have z := hok.2.2.1.z rfl
    refine ⟨Nat.pos_of_ne_zero (fun q => hok.1 (List.length_eq_zero_iff.mp q)), Nat.le_of_not_lt (fun q => z.2.2 (Or.inl q)), fun k hk => ⟨hu.ne_ _ (sp_getD_mem hk), Nat.le_of_not_lt (fun q => z.2.2 (Or.inr ⟨_, sp_getD_mem hk, q⟩))⟩⟩
  · rw [if_neg q]
    exact h j (by omega)
theorem sp_li0 {G : sp_G} {P : Nat → Prop} {A : Nat → Nat} {m : sp_M} (hI : sp_I G P A m) {j s : Nat} (hj : sp_ix j) (h : m.fI 2 (A j) = nI s) (hs : s < 2 ^ 31) : ∃ e, sp_li G m (A j) e s := by
  obtain ⟨-, e, s', q, -⟩ := hI.S.2.2.1 j hj
  have : nI s' = nI s := q.2.2.1.symm.trans h
  have := sp_neq this (by have := q.2.2.2.1; have := q.2.2.2.2.1; omega) hs
  subst this
  exact ⟨e, q⟩
theorem sp_seg_fun (D : Nat → Int32) (d : Nat) : ∀ j, j < d → D j = (fun i => (sp_seg D 0 d).getD i 0) j := fun j hj => by
  show D j = (sp_seg D 0 d).getD j 0
  rw [sp_seg_get _ _ _ hj, Nat.zero_add]
