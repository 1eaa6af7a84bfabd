
theorem sp_stepM {G : sp_G} {P : Nat → Prop} {A B : Nat → Nat} {m m' : sp_M} {sb N : Nat} {xs : Nat → Int32} {D : Nat → Int32} {R : Int32} {l0 l1 : Int64} {d n b p t e ws : Nat} {dc tc : Nat} {k0 k1 : Int64} {D' : Nat → Int32} {R' : Int32} {l0' l1' : Int64} {d' n' b' p' t' e' ws' : Nat} (hC : sp_CI G P A m dc tc k0 k1) (hV : sp_V B m m D R l0 l1 d n b p t e n ws) (hS : sp_SI m sb N xs) (hRI : ∀ a, sp_mr B a → P a) (hV' : sp_V B m m' D' R' l0' l1' d' n' b' p' t' e' n' ws') : sp_CI G P A m' dc tc k0 k1 ∧ sp_V B m' m' D' R' l0' l1' d' n' b' p' t' e' n' ws' ∧ sp_SI m' sb N xs :=
  ⟨hC.mf hV'.mf hRI (fun a z => by have := hV.row z; omega), hV'.og, hS.mf hV hC.1.wf hV'.mf⟩
theorem sp_stepF {G : sp_G} {P : Nat → Prop} {A B : Nat → Nat} {m m' : sp_M} {sb N : Nat} {xs : Nat → Int32} {D : Nat → Int32} {R : Int32} {l0 l1 : Int64} {d n b p t e ws : Nat} {dc tc : Nat} {k0 k1 : Int64} {T : Nat → Prop} (hC : sp_CI G P A m dc tc k0 k1) (hV : sp_V B m m D R l0 l1 d n b p t e n ws) (hS : sp_SI m sb N xs) (hI' : sp_I G P A m') (hF : sp_F m m' A T) (hb : sp_bn G m' A) (h3 : ¬ T 3) (h129 : ¬ T 129) : sp_CI G P A m' dc tc k0 k1 ∧ sp_V B m' m' D R l0 l1 d n b p t e n ws ∧ sp_SI m' sb N xs :=
  ⟨hC.F hI' hF hb h3 h129, hV.F hF hC.1.wf, hS.F hC.1.wf hF⟩
theorem sp_V.p129 {B : Nat → Nat} {m0 m : sp_M} {D : Nat → Int32} {R : Int32} {l0 l1 : Int64} {d n b p t e L w : Nat} (h : sp_V B m0 m D R l0 l1 d n b p t e L w) (a : Nat) (v : Int32) : sp_V B (m.pI 129 a v) (m.pI 129 a v) D R l0 l1 d n b p t e L w :=
  h.gen (sp_mf.refl _ _) ⟨h.r.o, h.r.q, h.r.ap⟩ (fun k hk => by rw [sp_pI_fI, if_neg (by omega)]) rfl (fun _ _ => rfl) (fun _ _ => rfl)
theorem sp_stepZ {G : sp_G} {P : Nat → Prop} {A B : Nat → Nat} {m m' : sp_M} {sb N : Nat} {xs : Nat → Int32} {D : Nat → Int32} {R : Int32} {l0 l1 : Int64} {d n b p t e ws : Nat} {dc tc : Nat} {k0 k1 : Int64} {T : Nat → Prop} {mq : sp_M} {t' : Nat} (hC : sp_CI G P A m dc tc k0 k1) (hV : sp_V B m m D R l0 l1 d n b p t e n ws) (hS : sp_SI m sb N xs) (hI' : sp_I G P A m') (hb : sp_bn G m' A) (hF : sp_F m mq A T) (hm : m' = mq.pI 129 (A 1) 0) (ht : m'.fI 2 (A 3) = nI t') : sp_CI G P A m' 0 t' k0 k1 ∧ sp_V B m' m' D R l0 l1 d n b p t e n ws ∧ sp_SI m' sb N xs := by
  subst hm
  have h9 := hS.F hC.1.wf hF
  exact ⟨hC.z hI' hF hb ht, (hV.F hF hC.1.wf).p129 _ _, h9⟩
theorem sp_stepP {G : sp_G} {P : Nat → Prop} {A B : Nat → Nat} {m m' : sp_M} {sb N : Nat} {xs : Nat → Int32} {D : Nat → Int32} {R : Int32} {l0 l1 : Int64} {d n b p t e ws : Nat} {dc tc : Nat} {k0 k1 : Int64} {x v : Int32} (hC : sp_CI G P A m dc tc k0 k1) (hV : sp_V B m m D R l0 l1 d n b p t e n ws) (hS : sp_SI m sb N xs) (hA8 : ∀ k, (sp_mt k).1 ≠ 0 → B k ≠ A 8) (hI' : sp_I G P A m') (q dn : Nat) (hm : m' = (m.sI (A 8) q x).pI 129 (A 1) (nI dn)) : sp_CI G P A m' dn tc k0 k1 ∧ sp_V B m' m' D R l0 l1 d n b p t e n ws ∧ sp_SI m' sb N xs := by
  obtain ⟨hI, h8, ⟨e9, s9, e10, s10, q9, q10, hq⟩, hO, h1, h2, h4, h5⟩ := hC
  have hf : sp_fx m m' (fun k _ => k = 129, fun _ _ => False, fun _ _ => False, fun a => a = A 8) := by
    rw [hm]
    have a1 := (sp_fx.refl m (fun k _ => k = 129, fun _ _ => False, fun _ _ => False, fun a => a = A 8)).sI (a := A 8) (j := q) (v := x) (Or.inl rfl)
    exact a1.pI (Or.inl rfl)
  refine ⟨⟨hI', h8, ⟨e9, s9, e10, s10, hf.li hI.wf q9 (fun z => absurd z (by show ¬ 2 = 129; decide)) (fun z => z), hf.li hI.wf q10 (fun z => absurd z (by show ¬ 2 = 129; decide)) (fun z => z), hq⟩, ⟨hf.ty hI.wf hO.1 (by decide), (hf.ln hI.wf hO.1 (by decide)).trans hO.2⟩, ?_, ?_, ?_, ?_⟩, hV.fr hf hI.wf (fun k a z => by have z : k = 129 := z; omega) (fun k a z => z.elim) (fun k a z => z.elim) (fun k hk z => hA8 k hk z), hS.fx hI.wf hf (fun z => ?_)⟩
  · rw [hm, sp_pI_fI, if_pos ⟨rfl, rfl⟩]
  · rw [hm, sp_pI_fI, if_neg (by omega)]; exact h2
  · rw [hm]; exact h4
  · rw [hm]; exact h5
  · have z : sb = A 8 := z
    have a1 := hS.1
    rw [z, hI.S.k 8 20 (by decide)] at a1
    omega
theorem sp_stepQ {G : sp_G} {P : Nat → Prop} {A B : Nat → Nat} {m m' : sp_M} {sb N : Nat} {xs : Nat → Int32} {D : Nat → Int32} {R : Int32} {l0 l1 : Int64} {d n b p t e ws : Nat} {dc tc : Nat} {k0 k1 : Int64} {k : Nat} {z : Int64} (hC : sp_CI G P A m dc tc k0 k1) (hV : sp_V B m m D R l0 l1 d n b p t e n ws) (hS : sp_SI m sb N xs) (hk : k = 580 ∨ k = 581) (hm : m' = m.pL k (A 7) z) : sp_CI G P A m' dc tc (if k = 580 then z else k0) (if k = 580 then k1 else z) ∧ sp_V B m' m' D R l0 l1 d n b p t e n ws ∧ sp_SI m' sb N xs := by
  obtain ⟨hI, h8, ⟨e9, s9, e10, s10, q9, q10, hq⟩, hO, h1, h2, h4, h5⟩ := hC
  have hf : sp_fx m m' (fun _ _ => False, fun q _ => q = k, fun _ _ => False, fun _ => False) := by
    rw [hm]
    exact (sp_fx.refl m (fun _ _ => False, fun q _ => q = k, fun _ _ => False, fun _ => False)).pL (Or.inl rfl)
  refine ⟨⟨by rw [hm]; exact hI.pL, h8, ⟨e9, s9, e10, s10, hf.li hI.wf q9 (fun z => z) (fun z => z), hf.li hI.wf q10 (fun z => z) (fun z => z), hq⟩, ⟨hf.ty hI.wf hO.1 (by decide), (hf.ln hI.wf hO.1 (by decide)).trans hO.2⟩, by rw [hm]; exact h1, by rw [hm]; exact h2, ?_, ?_⟩, hV.fr hf hI.wf (fun k a z => z.elim) (fun q a z => by have z : q = k := z; omega) (fun k a z => z.elim) (fun k hk z => z), hS.fx hI.wf hf (fun z => z)⟩
  · rw [hm, sp_pL_fL]
    rcases hk with rfl | rfl
    · rw [if_pos ⟨rfl, rfl⟩, if_pos rfl]
    · rw [if_neg (by omega), if_neg (by decide)]; exact h4
  · rw [hm, sp_pL_fL]
    rcases hk with rfl | rfl
    · rw [if_neg (by omega), if_pos rfl]; exact h5
    · rw [if_pos ⟨rfl, rfl⟩, if_neg (by decide)]
theorem sp_SI.rd {m : sp_M} {sb N : Nat} {xs : Nat → Int32} (h : sp_SI m sb N xs) {q : Nat} (hq : q < 2 ^ 31) : m.aI sb (nI q).toNatClampNeg = xs q := by rw [nI_clamp hq, h.2.2]
