
theorem sp_V.gen {B : Nat → Nat} {m0 m : sp_M} {D : Nat → Int32} {R : Int32} {l0 l1 : Int64} {d n b p t e L w : Nat} (h : sp_V B m0 m D R l0 l1 d n b p t e L w) {m1 m' : sp_M} (hf : sp_mf B m1 m') (hr : sp_R0 m' B) (hI : ∀ k, k = 832 ∨ k = 834 ∨ k = 835 ∨ k = 846 ∨ k = 849 ∨ k = 853 ∨ k = 856 ∨ k = 867 → m'.fI k (B 0) = m.fI k (B 0)) (hD : m'.aI (B 1) = m.aI (B 1)) (hM : ∀ k, k = 861 ∨ k = 862 → m'.fL k (B 0) = m.fL k (B 0)) (hA : ∀ k, (sp_mt k).1 ≠ 0 → m'.aI (B k) = m.aI (B k)) : sp_V B m1 m' D R l0 l1 d n b p t e L w :=
  ⟨hf, hr, (by rw [hI 834 (by omega)]; exact h.cd), (by rw [hI 835 (by omega)]; exact h.cn), (by rw [hI 846 (by omega)]; exact h.cb), (by rw [hI 849 (by omega)]; exact h.cp), (by rw [hI 853 (by omega)]; exact h.ct), (by rw [hI 856 (by omega)]; exact h.ce), (by rw [hI 867 (by omega)]; exact h.cw), (by rw [hI 832 (by omega)]; exact h.ru), (by rw [hD]; exact h.dr), (by rw [hM 861 (by omega)]; exact h.c0), (by rw [hM 862 (by omega)]; exact h.c1), h.hd, h.hn, h.hb, h.hp, h.ht, h.he, h.hw, h.hL, (fun j hj => by rw [hA 8 (by decide)]; exact h.ov j hj), (fun j hj => by rw [hA 10 (by decide)]; exact h.le j hj), (fun j hj => by rw [hA 4 (by decide), hA 9 (by decide)]; exact h.lk j hj), (fun j hj => by rw [hA 18 (by decide)]; exact h.pa j hj), (fun j hj => by rw [hA 19 (by decide)]; exact h.pl j hj), (fun j hj => by rw [hA 22 (by decide)]; exact h.ts j hj), (fun j hj => by rw [hA 26 (by decide)]; exact h.ep j hj), (fun j hj => by rw [hA 25 (by decide), hA 27 (by decide)]; exact h.e2 j hj), (fun j hj => by rw [hA 25 (by decide), hA 27 (by decide)]; exact h.e3 j hj)⟩
/-- the class's frames leave the model -/
theorem sp_V.fr {B : Nat → Nat} {m0 m : sp_M} {D : Nat → Int32} {R : Int32} {l0 l1 : Int64} {d n b p t e L w : Nat} (h : sp_V B m0 m D R l0 l1 d n b p t e L w) {m' : sp_M} {f : sp_W} (hf : sp_fx m m' f) (hwf : sp_wf m) (h1 : ∀ k a, f.1 k a → k < 832) (h2 : ∀ k a, f.2.1 k a → k < 832) (h3 : ∀ k a, f.2.2.1 k a → k < 832) (h4 : ∀ k, (sp_mt k).1 ≠ 0 → ¬ f.2.2.2 (B k)) : sp_V B m' m' D R l0 l1 d n b p t e L w := by
  have a0 : B 0 < m.nx := hwf _ (by rw [h.r.o]; decide)
  have ak : ∀ k, (sp_mt k).1 ≠ 0 → B k < m.nx := fun k hk => hwf _ (by rw [(h.r.q k hk).2.1]; exact hk)
  refine h.gen (sp_mf.refl _ _) ⟨?_, fun k hk => ⟨?_, ?_, ?_⟩, h.r.ap⟩ (fun k hk => hf.2.2.1 k _ a0 (fun z => by have := h1 k _ z; omega)) (hf.2.2.2.2.2 _ (ak 1 (by decide)) (h4 1 (by decide))).1 (fun k hk => hf.2.2.2.1 k _ a0 (fun z => by have := h2 k _ z; omega)) (fun k hk => (hf.2.2.2.2.2 _ (ak k hk) (h4 k hk)).1)
  · rw [(hf.2.1 _ a0).1]; exact h.r.o
  · rw [hf.2.2.2.2.1 _ _ a0 (fun z => by have := h3 _ _ z; omega)]; exact (h.r.q k hk).1
  · rw [(hf.2.1 _ (ak k hk)).1]; exact (h.r.q k hk).2.1
  · rw [(hf.2.1 _ (ak k hk)).2]; exact (h.r.q k hk).2.2
theorem sp_V.row {B : Nat → Nat} {m0 m : sp_M} {D : Nat → Int32} {R : Int32} {l0 l1 : Int64} {d n b p t e L w : Nat} (h : sp_V B m0 m D R l0 l1 d n b p t e L w) {a : Nat} (ha : sp_mr B a) : m.ty a = 20 ∨ m.ty a = 21 ∨ m.ty a = 22 := by
  obtain ⟨k, hk, rfl⟩ := ha
  obtain ⟨-, a2, a3⟩ := sp_mix_tab k (sp_mt_lt hk) hk
  have := sp_mro_ty _ a2
  rw [a3] at this
  rw [(h.r.q k hk).2.1]
  exact this
theorem sp_V.F {B : Nat → Nat} {m0 m : sp_M} {D : Nat → Int32} {R : Int32} {l0 l1 : Int64} {d n b p t e L w : Nat} (h : sp_V B m0 m D R l0 l1 d n b p t e L w) {m' : sp_M} {A : Nat → Nat} {T : Nat → Prop} (hf : sp_F m m' A T) (hwf : sp_wf m) : sp_V B m' m' D R l0 l1 d n b p t e L w :=
  h.fr hf hwf (fun k a z => by rcases z with z | z <;> omega) (fun k a z => by have z : k = 583 := z; omega) (fun k a z => by rcases z with z | z <;> omega) (fun k hk z => by
    have z : m.ty (B k) = 23 := z
    have := h.row ⟨k, hk, rfl⟩
    omega)
def sp_wm (B : Nat → Nat) : sp_W := (fun k _ => 832 ≤ k, fun k _ => 832 ≤ k, fun _ _ => False, fun a => sp_mr B a)
theorem sp_mf.fx {B : Nat → Nat} {m m' : sp_M} (h : sp_mf B m m') : sp_fx m m' (sp_wm B) := by
  obtain ⟨a1, a2, a3, a4, a5, a6, a7⟩ := h
  exact ⟨Nat.le_of_eq a1.symm, fun a _ => by rw [a2, a3]; exact ⟨rfl, rfl⟩, fun k a _ hk => (a6 k a (Nat.lt_of_not_le hk)).1, fun k a _ hk => (a6 k a (Nat.lt_of_not_le hk)).2, fun k a _ _ => by rw [a4], fun a _ ha => ⟨(a7 a ha).1, (a7 a ha).2, by rw [a5]⟩⟩
theorem sp_wf.mf {B : Nat → Nat} {m m' : sp_M} (hw : sp_wf m) (h : sp_mf B m m') : sp_wf m' := fun a ha => by
  rw [h.2.1] at ha
  rw [h.1]
  exact hw a ha
theorem sp_I.mf {G : sp_G} {P : Nat → Prop} {A B : Nat → Nat} {m m' : sp_M} (hI : sp_I G P A m) (h : sp_mf B m m') (hP : ∀ a, sp_mr B a → P a) (hr : ∀ a, sp_mr B a → m.ty a ≠ 23) : sp_I G P A m' := by
  refine ⟨hI.J.same h.2.1 h.2.2.1 (fun k a _ _ => by rw [h.2.2.2.1]) (fun a _ ha => (h.2.2.2.2.2.2 a (fun z => ha (hP a z))).1) (fun a _ => (h.2.2.2.2.2.1 2 a (by decide)).1) h.2.2.2.2.1, hI.wf.mf h, hI.S.fx hI.wf h.fx (fun _ _ z => z.elim) (fun k a z => ?_) hr, fun a ha => by rw [h.1]; exact hI.2.2.2 a ha⟩
  have z : 832 ≤ k := z
  omega
/-- the class, as the law keeps it: the draft's length, the number of targets, the limits -/
def sp_CI (G : sp_G) (P : Nat → Prop) (A : Nat → Nat) (m : sp_M) (d t : Nat) (l0 l1 : Int64) : Prop := sp_I G P A m ∧ P (A 8) ∧ sp_bn G m A ∧ sp_nob G m ∧ m.fI 129 (A 1) = nI d ∧ m.fI 2 (A 3) = nI t ∧ m.fL 580 (A 7) = l0 ∧ m.fL 581 (A 7) = l1
theorem sp_CI.dr {G : sp_G} {P : Nat → Prop} {A : Nat → Nat} {m : sp_M} {d t : Nat} {l0 l1 : Int64} (h : sp_CI G P A m d t l0 l1) (hd : d ≤ 160) : sp_dr m (A 1) (A 8) d :=
  ⟨h.1.S.k 1 3 (by decide), h.1.S.p 128 1 8 (by decide), h.1.S.k 8 20 (by decide), h.1.S.2.2.2.1.1, h.2.2.2.2.1, hd⟩
theorem sp_CI.li3 {G : sp_G} {P : Nat → Prop} {A : Nat → Nat} {m : sp_M} {d t : Nat} {l0 l1 : Int64} (h : sp_CI G P A m d t l0 l1) (ht : t ≤ 40) : ∃ e3, sp_li G m (A 3) e3 t := by
  obtain ⟨-, e3, s3, q, -, q2, -⟩ := h.1.S.2.2.1 3 (by unfold sp_ix; omega)
  have q2 : s3 ≤ 40 := q2
  have : nI s3 = nI t := q.2.2.1.symm.trans h.2.2.2.2.2.1
  have := sp_neq this (by omega) (by omega)
  subst this
  exact ⟨e3, q⟩
theorem sp_CI.mf {G : sp_G} {P : Nat → Prop} {A B : Nat → Nat} {m m' : sp_M} {d t : Nat} {l0 l1 : Int64} (hC : sp_CI G P A m d t l0 l1) (h : sp_mf B m m') (hP : ∀ a, sp_mr B a → P a) (hr : ∀ a, sp_mr B a → m.ty a ≠ 23) : sp_CI G P A m' d t l0 l1 := by
  obtain ⟨hI, h8, ⟨e9, s9, e10, s10, q9, q10, q⟩, hO, h1, h2, h3, h4⟩ := hC
  refine ⟨hI.mf h hP hr, h8, ⟨e9, s9, e10, s10, h.fx.li hI.wf q9 (fun z => absurd z (by show ¬ 832 ≤ 2; decide)) (fun z => z), h.fx.li hI.wf q10 (fun z => absurd z (by show ¬ 832 ≤ 2; decide)) (fun z => z), q⟩, ⟨by rw [h.2.1]; exact hO.1, by rw [h.2.2.1]; exact hO.2⟩, ?_, ?_, ?_, ?_⟩
  · rw [(h.2.2.2.2.2.1 129 _ (by decide)).1]; exact h1
  · rw [(h.2.2.2.2.2.1 2 _ (by decide)).1]; exact h2
  · rw [(h.2.2.2.2.2.1 580 _ (by decide)).2]; exact h3
  · rw [(h.2.2.2.2.2.1 581 _ (by decide)).2]; exact h4
theorem sp_CI.F {G : sp_G} {P : Nat → Prop} {A : Nat → Nat} {m m' : sp_M} {d t : Nat} {l0 l1 : Int64} {T : Nat → Prop} (hC : sp_CI G P A m d t l0 l1) (hI' : sp_I G P A m') (h : sp_F m m' A T) (hb : sp_bn G m' A) (h3 : ¬ T 3) (h129 : ¬ T 129) : sp_CI G P A m' d t l0 l1 := by
  obtain ⟨hI, h8, -, hO, h1, h2, h4, h5⟩ := hC
  have a1 : A 1 < m.nx := hI.wf _ (by rw [hI.S.k 1 3 (by decide)]; decide)
  have a7 : A 7 < m.nx := hI.wf _ (by rw [hI.S.k 7 10 (by decide)]; decide)
  obtain ⟨-, e3, s3, q, -⟩ := hI.S.2.2.1 3 (by unfold sp_ix; omega)
  refine ⟨hI', h8, hb, ⟨h.ty hI.wf hO.1 (by decide), (h.ln hI.wf hO.1 (by decide)).trans hO.2⟩, (h.I a1 (by decide) h129).trans h1, ?_, (h.2.2.2.1 580 _ a7 (fun z => absurd z (by show ¬ 580 = 583; decide))).trans h4, (h.2.2.2.1 581 _ a7 (fun z => absurd z (by show ¬ 581 = 583; decide))).trans h5⟩
  rw [(h.li hI.wf q (sp_tl.o hI.S (by unfold sp_ix; omega) h3)).2.2.1, ← q.2.2.1]
  exact h2
theorem sp_CI.z {G : sp_G} {P : Nat → Prop} {A : Nat → Nat} {m m1 : sp_M} {d t t' : Nat} {l0 l1 : Int64} {T : Nat → Prop} (hC : sp_CI G P A m d t l0 l1) (hI' : sp_I G P A (m1.pI 129 (A 1) 0)) (h : sp_F m m1 A T) (hb : sp_bn G (m1.pI 129 (A 1) 0) A) (ht : (m1.pI 129 (A 1) 0).fI 2 (A 3) = nI t') : sp_CI G P A (m1.pI 129 (A 1) 0) 0 t' l0 l1 := by
  obtain ⟨hI, h8, -, hO, h1, h2, h4, h5⟩ := hC
  have a7 : A 7 < m.nx := hI.wf _ (by rw [hI.S.k 7 10 (by decide)]; decide)
  refine ⟨hI', h8, hb, ⟨h.ty hI.wf hO.1 (by decide), (h.ln hI.wf hO.1 (by decide)).trans hO.2⟩, ?_, ht, (h.2.2.2.1 580 _ a7 (fun z => absurd z (by show ¬ 580 = 583; decide))).trans h4, (h.2.2.2.1 581 _ a7 (fun z => absurd z (by show ¬ 581 = 583; decide))).trans h5⟩
  rw [sp_pI_fI, if_pos ⟨rfl, rfl⟩]
  rfl
theorem sp_CI.t2 {G : sp_G} {P : Nat → Prop} {A : Nat → Nat} {m m1 : sp_M} {d t : Nat} {l0 l1 : Int64} {T : Nat → Prop} (hC : sp_CI G P A m d t l0 l1) (h : sp_F m m1 A T) (h3 : ¬ T 3) (v : Int32) (a : Nat) : (m1.pI 129 a v).fI 2 (A 3) = nI t := by
  obtain ⟨hI, -, -, -, -, h2, -, -⟩ := hC
  obtain ⟨-, e3, s3, q, -⟩ := hI.S.2.2.1 3 (by unfold sp_ix; omega)
  rw [sp_pI_fI, if_neg (by omega), (h.li hI.wf q (sp_tl.o hI.S (by unfold sp_ix; omega) h3)).2.2.1, ← q.2.2.1]
  exact h2
/-- the script -/
def sp_SI (m : sp_M) (sb N : Nat) (xs : Nat → Int32) : Prop := m.ty sb = 24 ∧ m.ln sb = N ∧ m.aI sb = xs
theorem sp_SI.fx {m m' : sp_M} {sb N : Nat} {xs : Nat → Int32} {f : sp_W} (h : sp_SI m sb N xs) (hw : sp_wf m) (hf : sp_fx m m' f) (h4 : ¬ f.2.2.2 sb) : sp_SI m' sb N xs := by
  have a : sb < m.nx := hw _ (by rw [h.1]; decide)
  exact ⟨by rw [(hf.2.1 _ a).1]; exact h.1, by rw [(hf.2.1 _ a).2]; exact h.2.1, by rw [(hf.2.2.2.2.2 _ a h4).1]; exact h.2.2⟩
theorem sp_SI.F {m m' : sp_M} {sb N : Nat} {xs : Nat → Int32} {A : Nat → Nat} {T : Nat → Prop} (h : sp_SI m sb N xs) (hw : sp_wf m) (hf : sp_F m m' A T) : sp_SI m' sb N xs := h.fx hw hf (fun z => by
  have z : m.ty sb = 23 := z
  have := h.1
  omega)
theorem sp_SI.mf {B : Nat → Nat} {m0 m : sp_M} {D : Nat → Int32} {R : Int32} {l0 l1 : Int64} {d n b p t e L w : Nat} {m' : sp_M} {sb N : Nat} {xs : Nat → Int32} (h : sp_SI m sb N xs) (hV : sp_V B m0 m D R l0 l1 d n b p t e L w) (hw : sp_wf m) (hf : sp_mf B m m') : sp_SI m' sb N xs := h.fx hw hf.fx (fun z => by
  have := hV.row z
  have := h.1
  omega)
theorem sp_l6 {N j : Nat} (hN : N ≤ 385) (hj : j ≤ 64) (h : ¬ nI N - 6 < nI (6 * j + 1)) : 6 * j + 7 ≤ N := by
  have e : (nI N - 6).toInt = (N : Int) - 6 := by
    rw [Int32.toInt_sub, nI_toInt (n := N) (by omega), show (6 : Int32).toInt = 6 from by decide +kernel]
    exact sp_tob _ (by omega) (by omega)
  rw [Int32.lt_iff_toInt_lt, e, nI_toInt (by omega)] at h
  omega
def sp_cel (N : Nat) (xs : Nat → Int32) : Int32 := if N = 0 then 0 else xs 0
set_option maxRecDepth 20000 in
theorem c_Law_cell (l : Launch) (G : sp_G) (m : sp_M) {sb N : Nat} {xs : Nat → Int32} (hs : sp_SI m sb N xs) (hN : N ≤ 385) : sp_C l G M_Law_cell 0 0 [.ref sb, .int 0] m (sp_oI fun v m' => v = sp_cel N xs ∧ m' = m) := by
  refine sp_enter (lv0 := [(0, false, va_rf (some sb)), (1, false, .int 0)]) "SafePathsLaw" false rfl (by decide) (fun h => by cases h) (Nat.le_of_ble_eq_true rfl) rfl ?_
  intro w X
  refine sp_iload_n X (pc := 0) (x := 0) dL_cell_0 rfl rfl ?_
  refine sp_aload_n X (pc := 1) (r := some sb) dL_cell_1 rfl rfl ?_
  refine sp_arraylength X (pc := 2) (a := sb) rfl (by have := hs.1; omega) dL_cell_2 ?_
  rw [show (Int32.ofNat (m.ln sb)) = (nI N) from (by rw [hs.2.1]; rfl)]
  refine sp_icmp_ge X (pc := 3) (tgt := 12) dL_cell_3 (by decide) (fun hb3 => ?_) (fun hb3 => ?_)
  · have h0 : N = 0 := by
      have := sp_nge (b := N) (a := 0) hb3 (by omega) (by omega)
      omega
    refine sp_iconst X (pc := 12) (v := 0) dL_cell_12 (by decide) ?_
    refine sp_ireturn X (pc := 13) dL_cell_13 rfl ⟨_, rfl, ?_⟩
    refine ⟨?_, rfl⟩
    unfold sp_cel
    first | exact (if_pos h0).symm | exact (if_neg (by omega)).symm
  · have h0 : 0 < N := sp_nlt (b := N) (a := 0) hb3 (by omega)
    refine sp_aload_n X (pc := 6) (r := some sb) dL_cell_6 rfl rfl ?_
    refine sp_iload_n X (pc := 7) (x := 0) dL_cell_7 rfl rfl ?_
    refine sp_iaload X (pc := 8) (a := sb) rfl (Or.inr hs.1) (sp_in 0 hs.2.1 (by omega) (by omega)) dL_cell_8 ?_
    rw [show (m.aI sb (Int32.toNatClampNeg 0)) = (xs 0) from (by rw [hs.2.2]; rfl)]
    refine sp_goto X (pc := 9) (tgt := 13) dL_cell_9 (by decide) ?_
    refine sp_ireturn X (pc := 13) dL_cell_13 rfl ⟨_, rfl, ?_⟩
    refine ⟨?_, rfl⟩
    unfold sp_cel
    first | exact (if_pos h0).symm | exact (if_neg (by omega)).symm
