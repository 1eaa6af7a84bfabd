
def sp_Tb (j : Nat) : Prop := j = 15 ∨ j = 706 ∨ j = 707 ∨ j = 708 ∨ j = 584 ∨ j = 585 ∨ j = 586 ∨ j = 587 ∨ j = 588 ∨ j = 589 ∨ j = 9 ∨ j = 10 ∨ j = 16 ∨ j = 326 ∨ j = 327 ∨ j = 582 ∨ j = 776 ∨ j = 583
theorem sp_Tj.b : ∀ j, sp_Tj j → sp_Tb j := by unfold sp_Tj sp_Tb; omega
def sp_T10 (j : Nat) : Prop := j = 10 ∨ j = 583
def sp_T9 (j : Nat) : Prop := j = 9
def sp_Tg (j : Nat) : Prop := j = 9 ∨ j = 10 ∨ j = 327 ∨ j = 582 ∨ j = 583
def sp_Tc (j : Nat) : Prop := j = 9 ∨ j = 10 ∨ j = 16 ∨ j = 327 ∨ j = 582 ∨ j = 583
def sp_T7 (j : Nat) : Prop := j = 9 ∨ j = 327
def sp_T8 (j : Nat) : Prop := j = 9 ∨ j = 327 ∨ j = 582
def sp_T16 (j : Nat) : Prop := j = 16 ∨ j = 326
theorem sp_I.lo {G : sp_G} {P : Nat → Prop} {A : Nat → Nat} {m : sp_M} (h : sp_I G P A m) {j ed s : Nat} (hj : sp_ix j) (hli : sp_li G m (A j) ed s) : m.ln ed ≤ 2 * sp_mxs j + 10 ∧ s ≤ sp_mxs j ∧ sp_mns j ≤ s := by
  obtain ⟨-, e0, t0, z1, z2⟩ := h.S.2.2.1 j hj
  obtain ⟨rfl, rfl⟩ := sp_sz_fun z1 hli
  exact z2
theorem sp_I.grow {G : sp_G} {P : Nat → Prop} {A : Nat → Nat} {m m' : sp_M} {T : Nat → Prop} {m0 : sp_M} (h : sp_I G P A m) (hF : sp_F m0 m A T) {j ed s ed' : Nat} (hj : j = 9 ∨ j = 10) (hT : T j) (hli : sp_li G m (A j) ed s) (hs : s < sp_mxs j) (hJ' : sp_J G P sp_E0 m') (hw' : sp_wf m') (hfx : sp_fx m m' (sp_wl (A j) ed)) (hl' : sp_li G m' (A j) ed' (s + 1)) (hc : m'.ln ed' ≤ 2 * sp_mxs j + 10) : sp_I G P A m' ∧ sp_F m0 m' A T := by
  have hix : sp_ix j := by unfold sp_ix; omega
  have h1 := h.lo hix hli
  have hp : 0 < s := by rcases hj with z | z <;> (subst z; have := h1.2.2; unfold sp_mns at this; simp at this; omega)
  refine ⟨h.wl hix hli hJ' hw' hfx ⟨ed', s + 1, hl', hc, by omega, by omega⟩ (by omega), hF.wl h.J hli hfx (fun z => ?_) hix hT⟩
  have := hli.2.2.2.1
  have := hli.2.2.2.2.2
  omega
theorem sp_tob (x : Int) (h1 : -2147483648 ≤ x) (h2 : x < 2147483648) : x.bmod 4294967296 = x := by
  unfold Int.bmod
  simp only []
  split <;> omega
theorem sp_br0 {n : Nat} (hn : n ≤ 1000) : (nI n - 1).toInt = (n : Int) - 1 := by
  rw [Int32.toInt_sub, nI_toInt (by omega)]
  exact sp_tob _ (by show -2147483648 ≤ (n : Int) - 1; omega) (by show (n : Int) - 1 < 2147483648; omega)
theorem sp_br9 {n c : Nat} (hn : n ≤ 1000) (hc : c ≤ 1000) : (nI n - 1 - nI c).toInt = (n : Int) - 1 - c := by
  rw [Int32.toInt_sub, nI_toInt (n := c) (by omega), sp_br0 hn]
  exact sp_tob _ (by omega) (by omega)
theorem sp_br1 {n c : Nat} (hn : n ≤ 1000) (hc : c ≤ 1000) (h : ¬ nI n - 1 ≤ nI n - 1 - nI c) : 0 < c := by
  rw [Int32.le_iff_toInt_le, sp_br9 hn hc, sp_br0 hn] at h
  omega
theorem sp_br2 (n d : Nat) : nI n - 1 - nI (d + 1) + 1 = nI n - 1 - nI d := by
  rw [← nI_1 d, Int32.sub_eq_add_neg, Int32.neg_add, Int32.sub_eq_add_neg (a := -nI d) (b := 1), ← Int32.add_assoc, Int32.add_assoc (nI n - 1 + -nI d), show (-1 + 1 : Int32) = 0 from by decide, Int32.add_zero, ← Int32.sub_eq_add_neg]
theorem sp_br3 {n c : Nat} (hn : n ≤ 1000) (hc : c ≤ 1000) (h : nI n - 1 ≤ nI n - 1 - nI c) : c = 0 := by
  rw [Int32.le_iff_toInt_le, sp_br9 hn hc, sp_br0 hn] at h
  omega

/-- node more, in the class -/
theorem sp_cN.add {G : sp_G} {P : Nat → Prop} {m m' : sp_M} {A : Nat → Nat} {Q : Nat → Prop} {R : Int32} {TT : Nat → List Int32} {n b t o h : Nat} {T : pu_N} {NA BA : Nat → Nat} {k d : Int32} {u : List Int32} (hN : sp_cN G m A R TT n T NA BA) (hW : pu_W n b t T) (hI : sp_I G P A m) (hF : sp_F m m' A Q) (h6 : ¬ Q 326) (h7 : ¬ Q 327) {ed ed' nm : Nat} {ob ot : Option Nat} (hli : sp_li G m (A 9) ed n) (hl' : sp_li G m' (A 9) ed' (n + 1)) (hel : ∀ j, j < n → m'.aR ed' j = m.aR ed j) (hen : m'.aR ed' n = some m.nx) (b1 : m'.ty m.nx = 6) (b2 : m'.fI 320 m.nx = nI n) (b3 : m'.fR 321 m.nx = some (NA o)) (ho : o < n) (b4 : m'.fR 322 m.nx = some nm) (hnv : sp_nv m nm u) (b5 : m'.fR 323 m.nx = ob) (b6 : m'.fR 324 m.nx = ot) (b7 : m'.fI 325 m.nx = d) (b8 : m'.fI 326 m.nx = 0) (b9 : m'.fI 327 m.nx = 0) (hob : ob = if k = 1 then some (BA h) else none) (hot1 : ¬ k = 2 → ot = none) (hot2 : k = 2 → ∃ ta, ot = some ta ∧ sp_tv G m R ta h (TT h)) : ∃ NA', (∀ j, j < n → NA' j = NA j) ∧ NA' n = m.nx ∧ sp_cN G m' A R TT (n + 1) (pu_add T n k d o h u) NA' BA := by
  obtain ⟨⟨e9, l1, l2⟩, ⟨n0, n1, n2, n3⟩, h3⟩ := id hN
  obtain ⟨rfl, -⟩ := sp_sz_fun l1 hli
  have h4 := hW.1.1
  have hnx : ∀ j, j < n → NA j < m.nx := fun j hj => hI.wf _ (by rw [(h3 j hj).1]; decide)
  obtain ⟨NA', hNA⟩ : ∃ NA' : Nat → Nat, NA' = fun j => if j = n then m.nx else NA j := ⟨_, rfl⟩
  have q1 : ∀ j, j < n → NA' j = NA j := fun j hj => by rw [hNA]; exact if_neg (by omega)
  have q2 : NA' n = m.nx := by rw [hNA]; exact if_pos rfl
  have E : ∀ j, j < n → (pu_add T n k d o h u).k j = T.k j ∧ (pu_add T n k d o h u).s j = T.s j ∧ (pu_add T n k d o h u).d j = T.d j ∧ (pu_add T n k d o h u).g j = T.g j ∧ (pu_add T n k d o h u).o j = T.o j ∧ (pu_add T n k d o h u).h j = T.h j ∧ (pu_add T n k d o h u).w j = T.w j := fun j hj => ⟨if_neg (by omega), if_neg (by omega), if_neg (by omega), if_neg (by omega), if_neg (by omega), if_neg (by omega), if_neg (by omega)⟩
  have N : (pu_add T n k d o h u).k n = k ∧ (pu_add T n k d o h u).s n = 0 ∧ (pu_add T n k d o h u).d n = d ∧ (pu_add T n k d o h u).g n = 0 ∧ (pu_add T n k d o h u).o n = o ∧ (pu_add T n k d o h u).h n = h ∧ (pu_add T n k d o h u).w n = u := ⟨if_pos rfl, if_pos rfl, if_pos rfl, if_pos rfl, if_pos rfl, if_pos rfl, if_pos rfl⟩
  refine ⟨NA', q1, q2, ⟨ed', hl', fun j hj => ?_⟩, ⟨?_, ?_, ?_, ?_⟩, fun j hj => ?_⟩
  · by_cases z : j = n
    · rw [z, hen, q2]
    · rw [hel j (by omega), l2 j (by omega), q1 j (by omega)]
  · rw [q1 0 (by omega)]; exact n0
  · rw [q1 1 (by omega)]; exact n1
  · rw [q1 2 (by omega)]; exact n2
  · rw [q1 3 (by omega)]; exact n3
  · by_cases z : j = n
    · subst z
      unfold sp_nd
      rw [q2, N.1, N.2.1, N.2.2.1, N.2.2.2.1, N.2.2.2.2.1, N.2.2.2.2.2.1, N.2.2.2.2.2.2, q1 o ho, if_neg (by omega)]
      refine ⟨b1, b2, b3, ⟨nm, b4, hnv.F hI.wf hF⟩, ⟨b7, b8, b9⟩, by rw [b5]; exact hob, fun z => by rw [b6]; exact hot1 z, fun z => ?_⟩
      obtain ⟨ta, z1, z2⟩ := hot2 z
      exact ⟨ta, by rw [b6]; exact z1, z2.F hI hF⟩
    · have hj' : j < n := by omega
      have q := (h3 j hj').F hI hF h6 h7
      have e := E j hj'
      unfold sp_nd at q ⊢
      rw [q1 j hj', e.1, e.2.1, e.2.2.1, e.2.2.2.1, e.2.2.2.2.1, e.2.2.2.2.2.1, e.2.2.2.2.2.2, q1 _ (hW.lt hj')]
      exact q
/-- a node GONE, in the class -/
theorem sp_cN.gone {G : sp_G} {P : Nat → Prop} {m : sp_M} {A : Nat → Nat} {R : Int32} {TT : Nat → List Int32} {n i : Nat} {T : pu_N} {NA BA : Nat → Nat} (hN : sp_cN G m A R TT n T NA BA) (hI : sp_I G P A m) (hn : n ≤ 200) (hi : i < n) : sp_cN G (m.pI 327 (NA i) 1) A R TT n (pu_gone T i) NA BA := by
  obtain ⟨⟨e9, l1, l2⟩, h2, h3⟩ := id hN
  have hF : sp_F m (m.pI 327 (NA i) 1) A (fun j => j = 327) := (sp_F.refl m A _).pI rfl (by decide)
  refine ⟨⟨e9, l1.pI (by decide), l2⟩, h2, fun j hj => ?_⟩
  obtain ⟨n1, n2, n3, ⟨nm, n4, n5⟩, ⟨n6, n7, n8⟩, n9, n10, n11⟩ := h3 j hj
  refine ⟨n1, by rw [sp_pI_fI, if_neg (by omega)]; exact n2, n3, ⟨nm, n4, n5.F hI.wf hF⟩, ⟨by rw [sp_pI_fI, if_neg (by omega)]; exact n6, by rw [sp_pI_fI, if_neg (by omega)]; exact n7, ?_⟩, n9, n10, fun z => ?_⟩
  · show (m.pI 327 (NA i) 1).fI 327 (NA j) = if j = i then 1 else T.g j
    by_cases z : j = i
    · rw [sp_pI_fI, if_pos ⟨rfl, by rw [z]⟩, if_pos z]
    · rw [sp_pI_fI, if_neg (fun w => z (hN.inj hn hj hi w.2)), if_neg z]
      exact n8
  · obtain ⟨ta, z1, z2⟩ := n11 z
    exact ⟨ta, z1, z2.F hI hF⟩
theorem sp_cN.B {G : sp_G} {m : sp_M} {A : Nat → Nat} {R : Int32} {TT : Nat → List Int32} {n b t : Nat} {T : pu_N} {NA BA BA' : Nat → Nat} (hN : sp_cN G m A R TT n T NA BA) (hW : pu_W n b t T) (hB : ∀ j, j < b → BA' j = BA j) : sp_cN G m A R TT n T NA BA' := by
  refine ⟨hN.1, hN.2.1, fun j hj => ?_⟩
  obtain ⟨n1, n2, n3, n4, n6, n9, n10⟩ := hN.2.2 j hj
  refine ⟨n1, n2, n3, n4, n6, ?_, n10⟩
  rw [n9]
  by_cases z : T.k j = 1
  · rw [if_pos z, if_pos z, hB]
    rcases hW.2.2.2.1 j hj with q | ⟨-, q⟩ | ⟨q, -⟩
    · rw [z] at q; exact absurd q (by decide)
    · exact q
    · rw [z] at q; exact absurd q (by decide)
  · rw [if_neg z, if_neg z]
/-- the bodies -/
def sp_cB (G : sp_G) (m : sp_M) (A : Nat → Nat) (nb : Nat) (BS : Nat → Int64) (BV : Nat → Int32) (BA : Nat → Nat) : Prop := (∃ e10, sp_li G m (A 10) e10 nb ∧ ∀ j, j < nb → m.aR e10 j = some (BA j)) ∧ ∀ j, j < nb → m.ty (BA j) = 2 ∧ m.fI 64 (BA j) = nI j ∧ m.fL 65 (BA j) = BS j ∧ m.fI 66 (BA j) = BV j
theorem sp_cB.F {G : sp_G} {P : Nat → Prop} {m m' : sp_M} {A : Nat → Nat} {Q : Nat → Prop} {nb : Nat} {BS : Nat → Int64} {BV : Nat → Int32} {BA : Nat → Nat} (h : sp_cB G m A nb BS BV BA) (hI : sp_I G P A m) (hF : sp_F m m' A Q) (h10 : ¬ Q 10) : sp_cB G m' A nb BS BV BA := by
  obtain ⟨⟨e10, l1, l2⟩, h3⟩ := h
  have q := hF.el hI sp_ix10 h10 l1
  refine ⟨⟨e10, q.1, fun j hj => by rw [q.2.1]; exact l2 j hj⟩, fun j hj => ?_⟩
  obtain ⟨c1, c2, c3, c4⟩ := h3 j hj
  have hl : BA j < m.nx := hI.wf _ (by omega)
  exact ⟨hF.ty hI.wf c1 (by decide), by rw [hF.2.2.1 _ _ hl (by rintro (z | z); omega; omega)]; exact c2, by rw [hF.L hl (fun z => by omega)]; exact c3, by rw [hF.2.2.1 _ _ hl (by rintro (z | z); omega; omega)]; exact c4⟩
theorem sp_cB.inj {G : sp_G} {m : sp_M} {A : Nat → Nat} {nb : Nat} {BS : Nat → Int64} {BV : Nat → Int32} {BA : Nat → Nat} (h : sp_cB G m A nb BS BV BA) (hn : nb ≤ 300) : ∀ x y, x < nb → y < nb → BA x = BA y → x = y := by
  intro i j hi hj e
  have h1 := (h.2 i hi).2.1
  have h2 := (h.2 j hj).2.1
  rw [e] at h1
  exact sp_neq (h1.symm.trans h2) (by omega) (by omega)
theorem sp_cB.add {G : sp_G} {P : Nat → Prop} {m m' : sp_M} {A : Nat → Nat} {Q : Nat → Prop} {nb : Nat} {BS : Nat → Int64} {BV : Nat → Int32} {BA : Nat → Nat} {sz : Int64} {va : Int32} (h : sp_cB G m A nb BS BV BA) (hI : sp_I G P A m) (hF : sp_F m m' A Q) {ed ed' : Nat} (hli : sp_li G m (A 10) ed nb) (hl' : sp_li G m' (A 10) ed' (nb + 1)) (hel : ∀ j, j < nb → m'.aR ed' j = m.aR ed j) (hen : m'.aR ed' nb = some m.nx) (b1 : m'.ty m.nx = 2) (b2 : m'.fI 64 m.nx = nI nb) (b3 : m'.fL 65 m.nx = sz) (b4 : m'.fI 66 m.nx = va) : ∃ BA', (∀ j, j < nb → BA' j = BA j) ∧ BA' nb = m.nx ∧ sp_cB G m' A (nb + 1) (fun j => if j = nb then sz else BS j) (fun j => if j = nb then va else BV j) BA' := by
  obtain ⟨⟨e10, l1, l2⟩, h3⟩ := h
  obtain ⟨rfl, -⟩ := sp_sz_fun l1 hli
  obtain ⟨BA', hBA⟩ : ∃ BA' : Nat → Nat, BA' = fun j => if j = nb then m.nx else BA j := ⟨_, rfl⟩
  have q1 : ∀ j, j < nb → BA' j = BA j := fun j hj => by rw [hBA]; exact if_neg (by omega)
  have q2 : BA' nb = m.nx := by rw [hBA]; exact if_pos rfl
  refine ⟨BA', q1, q2, ⟨ed', hl', fun j hj => ?_⟩, fun j hj => ?_⟩
  · by_cases z : j = nb
    · rw [z, hen, q2]
    · rw [hel j (by omega), l2 j (by omega), q1 j (by omega)]
  · dsimp only
    by_cases z : j = nb
    · subst z
      rw [q2, if_pos rfl, if_pos rfl]
      exact ⟨b1, b2, b3, b4⟩
    · rw [q1 j (by omega), if_neg z, if_neg z]
      obtain ⟨c1, c2, c3, c4⟩ := h3 j (by omega)
      have hl : BA j < m.nx := hI.wf _ (by omega)
      exact ⟨hF.ty hI.wf c1 (by decide), by rw [hF.2.2.1 _ _ hl (by rintro (z | z); omega; omega)]; exact c2, by rw [hF.L hl (fun z => by omega)]; exact c3, by rw [hF.2.2.1 _ _ hl (by rintro (z | z); omega; omega)]; exact c4⟩
theorem sp_cB.more {G : sp_G} {m : sp_M} {A : Nat → Nat} {nb : Nat} {BS : Nat → Int64} {BV : Nat → Int32} {BA : Nat → Nat} (h : sp_cB G m A nb BS BV BA) (sz : Int64) (va : Int32) : sp_cB G m A nb (fun j => if j = nb then sz else BS j) (fun j => if j = nb then va else BV j) BA := by
  refine ⟨h.1, fun j hj => ?_⟩
  dsimp only
  rw [if_neg (by omega), if_neg (by omega)]
  exact h.2 j hj
theorem sp_F.mono {m m' : sp_M} {A : Nat → Nat} {T T' : Nat → Prop} (h : sp_F m m' A T') (hT : ∀ a, T' a → T a) : sp_F m m' A T := (sp_F.refl m A T).trans h hT
theorem pu_W.mono {n b b' t : Nat} {T : pu_N} (h : pu_W n b t T) (hb : b ≤ b') : pu_W n b' t T := by
  obtain ⟨a1, a2, a3, a4, a5⟩ := h
  refine ⟨a1, a2, a3, fun j hj => ?_, a5⟩
  rcases a4 j hj with z | ⟨z, z2⟩ | z
  · exact Or.inl z
  · exact Or.inr (Or.inl ⟨z, by omega⟩)
  · exact Or.inr (Or.inr z)
theorem pu_kk.two {kd : Int32} (h : pu_kk kd = 2) : kd = 2 := by
  unfold pu_kk at h
  split at h
  · exact absurd h (by decide)
  · split at h
    · assumption
    · exact absurd h (by decide)
theorem pu_ins.new {n b t o h : Nat} {T : pu_N} {k d : Int32} {u : List Int32} (hW : pu_W n b t T) (ho : o < n) (hi : pu_ins T.o o) : pu_ins (pu_add T n k d o h u).o n := by
  have h4 := hW.1.1
  refine (pu_ins.step (by omega)).mpr ?_
  rw [show (pu_add T n k d o h u).o n = o from if_pos rfl]
  exact (pu_ins.congr (n := n) (fun j hj => ⟨hW.lt hj, if_neg (by omega)⟩) ho).mpr hi

theorem sp_br4 {n c : Nat} (h : c < n) : nI n - 1 - nI c = nI (n - 1 - c) := by
  induction c with
  | zero =>
    have := nI_pred (n - 1)
    rw [show n - 1 + 1 = n by omega] at this
    rw [this]
    show nI (n - 1) - 0 = _
    rw [Int32.sub_zero]
    rfl
  | succ c ih =>
    have e := sp_br2 n c
    rw [ih (by omega)] at e
    have e2 : nI (n - 1 - (c + 1)) + 1 = nI (n - 1 - c) := by rw [nI_1]; congr 1; omega
    have e3 : nI n - 1 - nI (c + 1) + 1 = nI (n - 1 - (c + 1)) + 1 := e.trans e2.symm
    exact (Int32.add_left_inj 1).mp e3
set_option maxRecDepth 20000 in
theorem c_Taking_bodyFor (l : Launch) (G : sp_G) (m : sp_M) {P : Nat → Prop} {A : Nat → Nat} (hG : sp_GS G) (hI : sp_I G P A m) {e nb0 : Nat} {kd va : Int32} {sz : Int64} {BS : Nat → Int64} {BV : Nat → Int32} {BA : Nat → Nat} {sh : Option Nat} (he : m.ty e = 4) (hkd : m.fI 192 e = kd) (hsz : m.fL 196 e = sz) (hva : m.fI 195 e = va) (hsh : m.fR 588 (A 7) = sh.map BA) (hcB : sp_cB G m A nb0 BS BV BA) (hs10 : nb0 < 300) : sp_C l G M_Taking_bodyFor 2 1500 [.ref (A 7), .ref e] m (sp_oR fun v m' => sp_I G P A m' ∧ sp_F m m' A sp_T10 ∧ ∃ BA', (∀ j, j < nb0 → BA' j = BA j) ∧ v = (if kd = 1 then some (BA' nb0) else sh.map BA) ∧ sp_cB G m' A (pu_nb kd nb0) (fun j => if j = nb0 then sz else BS j) (fun j => if j = nb0 then va else BV j) BA' ∧ m'.fL 583 (A 7) = (if kd = 1 then m.fL 583 (A 7) + sz else m.fL 583 (A 7))) := by
  refine sp_enter (lv0 := [(0, false, va_rf (some (A 7))), (1, false, va_rf (some e))]) "SafePaths$Taking" false rfl (by decide) (fun h => by cases h) (Nat.le_of_ble_eq_true rfl) rfl ?_
  intro w X
  have hS := hI.S
  have t5 := hS.k 5 11 (by decide)
  have t7 := hS.k 7 10 (by decide)
  obtain ⟨⟨ed10, hli10, -⟩, -⟩ := id hcB
  have hlo := hI.lo sp_ix10 hli10
  have l7 := hI.lt 7 10 (by decide) (by decide)
  refine sp_aload_n X (pc := 0) (r := some e) dX8_bodyFor_0 rfl rfl ?_
  refine sp_getfield X (pc := 1) (c := 3) (i := 0) (t := 0) (a := e) (v := .int kd) rfl (by first | assumption | omega) (by decide) rfl (congrArg Value.int hkd) fl_Taking_173 dX8_bodyFor_1 ?_
  refine sp_iconst X (pc := 4) (v := 1) dX8_bodyFor_4 (by decide) ?_
  refine sp_icmp_eq X (pc := 5) (tgt := 13) dX8_bodyFor_5 (by decide) (fun hb5 => ?_) (fun hb5 => ?_)
  · refine sp_aload_n X (pc := 13) (r := some (A 7)) dX8_bodyFor_13 rfl rfl ?_
    refine sp_dup X (pc := 14) dX8_bodyFor_14 (sp_cat_rf _) ?_
    refine sp_getfield X (pc := 15) (c := 9) (i := 7) (t := 1) (a := (A 7)) (v := .long (m.fL 583 (A 7))) rfl (by first | assumption | omega) (by decide) rfl rfl fl_Taking_45 dX8_bodyFor_15 ?_
    refine sp_aload_n X (pc := 18) (r := some e) dX8_bodyFor_18 rfl rfl ?_
    refine sp_getfield X (pc := 19) (c := 3) (i := 4) (t := 1) (a := e) (v := .long (m.fL 196 e)) rfl (by first | assumption | omega) (by decide) rfl rfl fl_Taking_202 dX8_bodyFor_19 ?_
    refine sp_ladd X (pc := 22) dX8_bodyFor_22 ?_
    refine sp_putL X (pc := 23) (c := 9) (i := 7) (q := 583) (a := (A 7)) rfl (by first | assumption | omega) (by decide) rfl rfl (Or.inl rfl)  fl_Taking_45 dX8_bodyFor_23 ?_
    obtain ⟨m1, hm1⟩ : ∃ m1, m1 = m.pL 583 (A 7) (m.fL 583 (A 7) + m.fL 196 e) := ⟨_, rfl⟩
    rw [← hm1]
    have hI1 : sp_I G P A m1 := by rw [hm1]; exact hI.pL
    have hF1 : sp_F m m1 A sp_T10 := by rw [hm1]; exact (sp_F.refl m A sp_T10).pL (Or.inr rfl)
    have hG1 : sp_F m m1 A (fun j => j = 583) := by rw [hm1]; exact (sp_F.refl m A (fun j => j = 583)).pL rfl
    have hli1 : sp_li G m1 (A 10) ed10 nb0 := by rw [hm1]; exact hli10.pL
    have hcB1 := hcB.F hI hG1 (by decide)
    have hel : e < m.nx := hI.wf e (by omega)
    have hS1 := hI1.S
    have he1 := hF1.ty hI.wf he (by decide)
    have h583 : m1.fL 583 (A 7) = m.fL 583 (A 7) + sz := by rw [hm1, sp_pL_fL, if_pos ⟨rfl, rfl⟩, hsz]
    have hsz1 : m1.fL 196 e = sz := by rw [hG1.L hel (fun z => by omega)]; exact hsz
    have hva1 : m1.fI 195 e = va := by rw [hF1.2.2.1 _ _ hel (by rintro (z | z); omega; omega)]; exact hva
    have y5 := hS1.k 5 11 (by decide)
    have y7 := hS1.k 7 10 (by decide)
    clear hm1
    refine sp_aload_n X (pc := 26) (r := some (A 7)) dX8_bodyFor_26 rfl rfl ?_
    refine sp_getfield X (pc := 27) (c := 9) (i := 1) (t := 2) (a := (A 7)) (v := va_rf (some (A 5))) rfl (by first | assumption | omega) (by decide) rfl (congrArg va_rf (hS1.p 577 7 5 (by decide))) fl_Taking_15 dX8_bodyFor_27 ?_
    refine sp_aload_n X (pc := 30) (r := some e) dX8_bodyFor_30 rfl rfl ?_
    refine sp_getfield X (pc := 31) (c := 3) (i := 4) (t := 1) (a := e) (v := .long (m1.fL 196 e)) rfl (by first | assumption | omega) (by decide) rfl rfl fl_Taking_202 dX8_bodyFor_31 ?_
    refine sp_aload_n X (pc := 34) (r := some e) dX8_bodyFor_34 rfl rfl ?_
    refine sp_getfield X (pc := 35) (c := 3) (i := 3) (t := 0) (a := e) (v := .int (m1.fI 195 e)) rfl (by first | assumption | omega) (by decide) rfl rfl fl_Taking_211 dX8_bodyFor_35 ?_
    refine sp_callV X (pc := 38) (mc := 2) (ms := 1500) (b := (A 5)) (c := 10) (r := (some (A 5))) (As := [.long (m1.fL 196 e), .int (m1.fI 195 e)]) (rest := []) (c_Tree_addBody l G _ hI1.J hI1.tr hG hI1.wf hli1 hs10 (hI1.lo sp_ix10 hli1).1) ok_Tree_addBody rfl y5 (by decide) rfl lk_Taking_235 rfl rfl (Nat.zero_le _) (Nat.le_of_ble_eq_true rfl) (Nat.le_of_ble_eq_true rfl) (Nat.le_refl _) (Nat.le_refl _) dX8_bodyFor_38 (sp_kR fun v38 m38 hp38 => ?_)
    refine sp_areturn X (pc := 41) (by first | exact Or.inl ⟨_, rfl⟩ | exact Or.inr ⟨_, rfl⟩) dX8_bodyFor_41 ⟨_, rfl, ?_⟩
    obtain ⟨b1, b2, b3, b4, ⟨ed', b5, b6, -, b8, b9⟩, b7, c1, c2, c3⟩ := hp38
    obtain ⟨i1, i2⟩ := hI1.grow (T := sp_T10) hF1 (Or.inr rfl) (Or.inl rfl) hli1 hs10 b2 b3 b4 b5 b6
    obtain ⟨-, i3⟩ := hI1.grow (T := fun j => j = 10) (sp_F.refl m1 A _) (Or.inr rfl) rfl hli1 hs10 b2 b3 b4 b5 b6
    obtain ⟨BA', d1, d2, d3⟩ := hcB1.add hI1 i3 hli1 b5 b8 b9 b7 c1 (c2.trans hsz1) (c3.trans hva1)
    refine ⟨i1, i2, BA', d1, ?_, ?_, ?_⟩
    · rw [if_pos hb5, d2]; exact b1
    · unfold pu_nb; rw [if_pos hb5]; exact d3
    · rw [if_pos hb5, i3.L (hI1.lt 7 10 (by decide) (by decide)) (fun _ => by decide)]; exact h583
  · refine sp_aload_n X (pc := 8) (r := some (A 7)) dX8_bodyFor_8 rfl rfl ?_
    refine sp_getfield X (pc := 9) (c := 9) (i := 12) (t := 2) (a := (A 7)) (v := va_rf (m.fR 588 (A 7))) rfl (by first | assumption | omega) (by decide) rfl rfl fl_Taking_66 dX8_bodyFor_9 ?_
    refine sp_areturn X (pc := 12) (by first | exact Or.inl ⟨_, rfl⟩ | exact Or.inr ⟨_, rfl⟩) dX8_bodyFor_12 ⟨_, rfl, ?_⟩
    exact ⟨hI, sp_F.refl m A sp_T10, BA, fun _ _ => rfl, (by rw [if_neg hb5]; exact hsh), (by unfold pu_nb; rw [if_neg hb5]; exact hcB.more sz va), (if_neg hb5).symm⟩
set_option maxHeartbeats 1000000 in
set_option maxRecDepth 20000 in
theorem c_Taking_bring (l : Launch) (G : sp_G) (m : sp_M) {P : Nat → Prop} {A : Nat → Nat} (hG : sp_GS G) (hI : sp_I G P A m) {R : Int32} {TT : Nat → List Int32} {n nb0 nt0 : Nat} {T : pu_N} {NA BA : Nat → Nat} (hN : sp_cN G m A R TT n T NA BA) (hW : pu_W n nb0 nt0 T) {e p pn L edp sp o md tg : Nat} {us : List (List Int32)} {kd va : Int32} {sz : Int64} {BS : Nat → Int64} {BV : Nat → Int32} {f lk : Nat} {th sh : Option Nat} {dd : Int32} (hjs : sp_js m A NA BA n f lk th none sh dd) (he : m.ty e = 4) (hkd : m.fI 192 e = kd) (hkr : kd = 0 ∨ kd = 1 ∨ kd = 2 ∨ kd = 3) (hsz : m.fL 196 e = sz) (hva : m.fI 195 e = va) (hp1 : m.fR 193 e = some p) (ho1 : m.fR 194 e = some o) (hptp : sp_pt G m p L edp sp) (hpvp : sp_pv G m p pn us) (hs8 : us.length ≤ 8) (hus : ∀ i, i < us.length → 1 ≤ (us.getD i []).length ∧ (us.getD i []).length ≤ 16) (hlk : lk < us.length) (h9 : n + lk + 1 ≤ 200) (hfi : pu_ins T.o f) (hth : ∀ j, th = some j → 4 ≤ j ∧ j < n) (hsh3 : kd = 3 → ∃ q, sh = some q ∧ q < nb0) (hsh0 : kd = 0 ∨ kd = 2 → sh = none) (hot2 : kd = 2 → sp_tv G m R o tg (TT tg) ∧ tg < nt0) (hcB : sp_cB G m A nb0 BS BV BA) (hs10 : nb0 < 300) (hmd : m.fI 582 (A 7) = nI md) : sp_C l G M_Taking_bring 20 9600 [.ref (A 7), .ref e] m (sp_oR fun v m' => sp_I G P A m' ∧ sp_F m m' A sp_Tg ∧ ∃ NA' BA', (∀ j, j < n → NA' j = NA j) ∧ v = some (NA' (n + lk)) ∧ sp_cN G m' A R TT (n + lk + 1) (pu_br T n f lk us th (pu_kk kd) dd (pu_hh kd nb0 tg sh)) NA' BA' ∧ pu_W (n + lk + 1) (pu_nb kd nb0) nt0 (pu_br T n f lk us th (pu_kk kd) dd (pu_hh kd nb0 tg sh)) ∧ sp_cB G m' A (pu_nb kd nb0) (fun j => if j = nb0 then sz else BS j) (fun j => if j = nb0 then va else BV j) BA' ∧ m'.fI 582 (A 7) = nI (md + (lk + 1)) ∧ m'.fL 583 (A 7) = (if kd = 1 then m.fL 583 (A 7) + sz else m.fL 583 (A 7))) := by
  refine sp_enter (lv0 := [(0, false, va_rf (some (A 7))), (1, false, va_rf (some e))]) "SafePaths$Taking" false rfl (by decide) (fun h => by cases h) (Nat.le_of_ble_eq_true rfl) rfl ?_
  intro w X
  have hS := hI.S
  have t5 := hS.k 5 11 (by decide)
  have t7 := hS.k 7 10 (by decide)
  have hsu := (hpvp.pt hptp).1
  subst hsu
  have hpl := hptp.1
  have hel : e < m.nx := hI.wf e (by omega)
  have l7 := hI.lt 7 10 (by decide) (by decide)
  have hdd : sp_b01 dd := by rw [← hjs.2.2.2.2.2]; exact hS.2.2.2.2.2.1.2
  have hR : ∀ {m' : sp_M} {Q : Nat → Prop}, sp_F m m' A Q → m'.fR 193 e = some p ∧ m'.fR 194 e = some o := fun {m' Q} h => ⟨by rw [h.R hel (by decide)]; exact hp1, by rw [h.R hel (by decide)]; exact ho1⟩
  have hkd9 : ∀ {m' : sp_M} {Q : Nat → Prop}, sp_F m m' A Q → m'.fI 192 e = kd := fun {m' Q} h => by rw [h.2.2.1 _ _ hel (by rintro (z | z); omega; omega)]; exact hkd
  have hNM : ∀ {m' : sp_M} {Q : Nat → Prop} {i nm : Nat}, sp_I G P A m' → sp_F m m' A Q → (∀ j, j < us.length → nI i = nI j → m'.aR edp j = some nm) → i < us.length → sp_nv m' nm (us.getD i []) := fun {m' Q i nm} hi' h hk hi => by
    obtain ⟨nm', z1, z2⟩ := ((hpvp.F hI h).pt (h.pt hI hi' hptp)).2.1 i hi
    rw [hk i hi rfl] at z1
    cases z1
    exact z2
  have cut71 : ∀ (m3 : sp_M) (f3 : Nat) (NA3 : Nat → Nat), sp_I G P A m3 → sp_F m m3 A sp_T7 → sp_cN G m3 A R TT (n + lk) (pu_go1 (pu_many T n f ((us.take (us.length - 1)).drop (us.length - 1 - lk))).1 th) NA3 BA → pu_W (n + lk) nb0 nt0 (pu_go1 (pu_many T n f ((us.take (us.length - 1)).drop (us.length - 1 - lk))).1 th) → f3 < n + lk → pu_ins (pu_go1 (pu_many T n f ((us.take (us.length - 1)).drop (us.length - 1 - lk))).1 th).o f3 → (∀ j, j < n → NA3 j = NA j) → f3 = (pu_many T n f ((us.take (us.length - 1)).drop (us.length - 1 - lk))).2.2 → w 4 2500 m3 71 [(0, false, va_rf (some (A 7))), (1, false, va_rf (some e)), (2, false, .int (nI us.length - 1)), (3, false, va_rf (some (NA3 f3)))] [] := by
    intro m3 f3 NA3 I3 F3 N3 W3 hft3 hfi3 NE3 hf3e
    have hS3 := I3.S
    have y5 := hS3.k 5 11 (by decide)
    have y7 := hS3.k 7 10 (by decide)
    have he3 := F3.ty hI.wf he (by decide)
    have js3 := hjs.F l7 F3 (by unfold sp_T7; decide)
    have hmd3 : m3.fI 582 (A 7) = nI md := by rw [F3.I l7 (by decide) (by unfold sp_T7; decide)]; exact hmd
    refine sp_aload_n X (pc := 71) (r := some (A 7)) dX8_bring_71 rfl rfl ?_
    refine sp_dup X (pc := 72) dX8_bring_72 (sp_cat_rf _) ?_
    refine sp_getfield X (pc := 73) (c := 9) (i := 6) (t := 0) (a := (A 7)) (v := .int (nI md)) rfl (by first | assumption | omega) (by decide) rfl (congrArg Value.int hmd3) fl_Taking_41 dX8_bring_73 ?_
    refine sp_aload_n X (pc := 76) (r := some (A 7)) dX8_bring_76 rfl rfl ?_
    refine sp_getfield X (pc := 77) (c := 9) (i := 9) (t := 0) (a := (A 7)) (v := .int (nI lk)) rfl (by first | assumption | omega) (by decide) rfl (congrArg Value.int js3.2.1) fl_Taking_57 dX8_bring_77 ?_
    refine sp_iconst X (pc := 80) (v := 1) dX8_bring_80 (by decide) ?_
    refine sp_iadd X (pc := 81) dX8_bring_81 ?_
    rw [show ((nI lk) + 1) = nI (lk + 1) from nI_1 lk]
    refine sp_iadd X (pc := 82) dX8_bring_82 ?_
    rw [show ((nI md) + (nI (lk + 1))) = nI (md + (lk + 1)) from nI_add md (lk + 1)]
    refine sp_putI X (pc := 83) (c := 9) (i := 6) (q := 582) (a := (A 7)) rfl (by first | assumption | omega) (by decide) rfl rfl (Or.inl rfl) ⟨rfl, rfl⟩ fl_Taking_41 dX8_bring_83 ?_
    obtain ⟨m4, hm4⟩ : ∃ m4, m4 = m3.pI 582 (A 7) (nI (md + (lk + 1))) := ⟨_, rfl⟩
    rw [← hm4]
    have I4 : sp_I G P A m4 := by rw [hm4]; exact I3.pI (by decide)
    have F4 : sp_F m m4 A sp_T8 := by rw [hm4]; exact (F3.mono (T := sp_T8) (fun j h => by unfold sp_T7 at h; unfold sp_T8; omega)).pI (by unfold sp_T8; decide) (by decide)
    have G4 : sp_F m3 m4 A (fun j => j = 582) := by rw [hm4]; exact (sp_F.refl m3 A _).pI rfl (by decide)
    have N4 := N3.F I3 G4 (by decide) (by decide) (by decide)
    have h582 : m4.fI 582 (A 7) = nI (md + (lk + 1)) := by rw [hm4, sp_pI_fI, if_pos ⟨rfl, rfl⟩]
    clear hm4
    have hS4 := I4.S
    have w5 := hS4.k 5 11 (by decide)
    have w7 := hS4.k 7 10 (by decide)
    have he4 := F4.ty hI.wf he (by decide)
    have hpt4 := F4.pt hI I4 hptp
    have js4 := hjs.F l7 F4 (by unfold sp_T8; decide)
    have hsz4 : m4.fL 196 e = sz := by rw [F4.L hel (fun _ => by unfold sp_T8; decide)]; exact hsz
    have hva4 : m4.fI 195 e = va := by rw [F4.2.2.1 _ _ hel (by rintro (z | z); omega; omega)]; exact hva
    have hcB4 := hcB.F hI F4 (by unfold sp_T8; decide)
    refine sp_aload_n X (pc := 86) (r := some e) dX8_bring_86 rfl rfl ?_
    refine sp_getfield X (pc := 87) (c := 3) (i := 0) (t := 0) (a := e) (v := .int kd) rfl he4 (by decide) rfl (congrArg Value.int (hkd9 F4)) fl_Taking_173 dX8_bring_87 ?_
    refine sp_iconst X (pc := 90) (v := 2) dX8_bring_90 (by decide) ?_
    refine sp_icmp_ne X (pc := 91) (tgt := 101) dX8_bring_91 (by decide) (fun hb91 => ?_) (fun hb91 => ?_)
    · refine sp_null X (pc := 101) dX8_bring_101 ?_
      refine sp_astore X (pc := 102) (lv' := [(4, false, va_rf none), (0, false, va_rf (some (A 7))), (1, false, va_rf (some e)), (2, false, .int (nI us.length - 1)), (3, false, va_rf (some (NA3 f3)))]) dX8_bring_102  (by decide) rfl ?_
      refine sp_aload_n X (pc := 104) (r := some (A 7)) dX8_bring_104 rfl rfl ?_
      refine sp_getfield X (pc := 105) (c := 9) (i := 1) (t := 2) (a := (A 7)) (v := va_rf (some (A 5))) rfl w7 (by decide) rfl (congrArg va_rf (hS4.p 577 7 5 (by decide))) fl_Taking_15 dX8_bring_105 ?_
      refine sp_aload_n X (pc := 108) (r := some (NA3 f3)) dX8_bring_108 rfl rfl ?_
      refine sp_aload_n X (pc := 109) (r := some e) dX8_bring_109 rfl rfl ?_
      refine sp_getfield X (pc := 110) (c := 3) (i := 1) (t := 2) (a := e) (v := va_rf (some p)) rfl he4 (by decide) rfl (congrArg va_rf ((hR F4).1)) fl_Taking_97 dX8_bring_110 ?_
      refine sp_iload_n X (pc := 113) (x := (nI us.length - 1)) dX8_bring_113 rfl rfl ?_
      refine sp_callV X (pc := 114) (mc := 0) (ms := 0) (b := p) (c := 7) (r := (some p)) (As := [.int (nI us.length - 1)]) (rest := [va_rf (some (NA3 f3)), va_rf (some (A 5))]) (c_Parted_at l G _ hpt4) ok_Parted_at rfl hpt4.1 (by decide) rfl lk_Taking_112 rfl rfl (by simp [sp_cat_rf, sp_cat_i, sp_cat_l]) (Nat.le_of_ble_eq_true rfl) (Nat.le_of_ble_eq_true rfl) (Nat.zero_le _) (Nat.zero_le _) dX8_bring_114 (sp_kR fun v114 m114 hp114 => ?_)
      obtain ⟨hp114, hp114m⟩ := hp114; replace hp114m := (hp114m).symm; subst hp114m
      obtain ⟨nm, rfl, hnmt, hk114, -⟩ := hp114
      have hix : nI us.length - 1 = nI (us.length - 1) := by
        have := nI_pred (us.length - 1)
        rw [show us.length - 1 + 1 = us.length by omega] at this
        exact this
      rw [hix] at hk114
      have hnv := hNM (i := us.length - 1) I4 F4 hk114 (by omega)
      refine sp_aload_n X (pc := 117) (r := some (A 7)) dX8_bring_117 rfl rfl ?_
      refine sp_aload_n X (pc := 118) (r := some e) dX8_bring_118 rfl rfl ?_
      refine sp_callV X (pc := 119) (mc := 2) (ms := 1500) (b := (A 7)) (c := 9) (r := some (A 7)) (As := [va_rf (some e)]) (rest := [va_rf (some nm), va_rf (some (NA3 f3)), va_rf (some (A 5))]) (c_Taking_bodyFor l G _ hG I4 he4 (hkd9 F4) hsz4 hva4 js4.2.2.2.2.1 hcB4 hs10) ok_Taking_bodyFor rfl w7 (by decide) rfl lk_Taking_231 rfl rfl (by simp [sp_cat_rf, sp_cat_i, sp_cat_l]) (Nat.le_of_ble_eq_true rfl) (Nat.le_of_ble_eq_true rfl) (by omega) (by omega) dX8_bring_119 (sp_kR fun v119 m119 hp119 => ?_)
      obtain ⟨c1, c2, BA', d1, d2, d3, d4⟩ := hp119
      have hS119 := c1.S
      have z7 := hS119.k 7 10 (by decide)
      have z5 := hS119.k 5 11 (by decide)
      have F5 : sp_F m m119 A sp_Tg := (F4.mono (fun j h => by unfold sp_T8 at h; unfold sp_Tg; omega)).trans c2 (fun j h => by unfold sp_T10 at h; unfold sp_Tg; omega)
      have N5 := (N4.F I4 c2 (by unfold sp_T10; decide) (by unfold sp_T10; decide) (by unfold sp_T10; decide)).B W3 d1
      obtain ⟨⟨e3, l5, -⟩, -, -⟩ := id N5
      have hlo5 := c1.lo sp_ix9 l5
      have hf5 := (N5.2.2 f3 hft3).1
      have hn5 := c2.ty I4.wf (a := nm) hnmt (by decide)
      have hnv5 := hnv.F I4.wf c2
      have hot9 : sp_tv G m R o tg (TT tg) → m119.ty o = 8 ∧ sp_tv G m119 R o tg (TT tg) := fun z => ⟨F5.ty hI.wf (by obtain ⟨_, _, z2, _⟩ := z; exact z2.1) (by decide), z.F hI F5⟩
      have hdd5 : m119.fI 589 (A 7) = dd := by rw [c2.I (I4.lt 7 10 (by decide) (by decide)) (by decide) (by unfold sp_T10; decide)]; exact js4.2.2.2.2.2
      have h5825 : m119.fI 582 (A 7) = nI (md + (lk + 1)) := by rw [c2.I (I4.lt 7 10 (by decide) (by decide)) (by decide) (by unfold sp_T10; decide)]; exact h582
      have h5835 : m119.fL 583 (A 7) = (if kd = 1 then m.fL 583 (A 7) + sz else m.fL 583 (A 7)) := by rw [d4, F4.L l7 (fun _ => by unfold sp_T8; decide)]
      have hob : v119 = if pu_kk kd = 1 then some (BA' (pu_hh kd nb0 tg sh)) else none := by
        rw [d2]
        rcases hkr with rfl | rfl | rfl | rfl
        · rw [pu_kk0, if_neg (by decide), if_neg (by decide), hsh0 (Or.inl rfl)]; rfl
        · rw [pu_kk1, pu_h1, if_pos rfl, if_pos rfl]
        · rw [pu_kk2, if_neg (by decide), if_neg (by decide), hsh0 (Or.inr rfl)]; rfl
        · obtain ⟨q9, z1, z2⟩ := hsh3 rfl
          rw [pu_kk3, pu_h3, if_neg (by decide), if_pos rfl, z1]
          show some (BA q9) = some (BA' q9)
          rw [d1 q9 z2]
      have hobt : ∀ x, v119 = some x → m119.ty x = 2 := fun x hx => by
        rcases hkr with rfl | rfl | rfl | rfl
        · rw [hob, pu_kk0, if_neg (by decide)] at hx; cases hx
        · rw [hob, pu_kk1, if_pos rfl, pu_h1] at hx; cases hx; exact (d3.2 nb0 (by rw [pu_nb1]; omega)).1
        · rw [hob, pu_kk2, if_neg (by decide)] at hx; cases hx
        · obtain ⟨q9, z1, z2⟩ := hsh3 rfl
          rw [hob, pu_kk3, if_pos rfl, pu_h3, z1] at hx; cases hx; exact (d3.2 q9 (by rw [pu_nb3]; exact z2)).1
      refine sp_aload X (pc := 122) (r := none) dX8_bring_122 rfl ?_
      refine sp_aload_n X (pc := 124) (r := some (A 7)) dX8_bring_124 rfl rfl ?_
      refine sp_getfield X (pc := 125) (c := 9) (i := 13) (t := 0) (a := (A 7)) (v := .int (m119.fI 589 (A 7))) rfl (by first | assumption | omega) (by decide) rfl rfl fl_Taking_70 dX8_bring_125 ?_
      refine sp_callV X (pc := 128) (mc := 2) (ms := 1000) (b := (A 5)) (c := 10) (r := (some (A 5))) (As := [va_rf (some (NA3 f3)), va_rf (some nm), va_rf v119, va_rf none, .int (m119.fI 589 (A 7))]) (rest := []) (c_Tree_addNode l G _ c1.J c1.tr hG c1.wf l5 (by omega) hlo5.1 hf5 hn5 hobt (fun x hx => by first | (cases hx; exact (hot9 (hot2 hb91).1).1) | cases hx) hS119.2.2.2.2.2.1.2) ok_Tree_addNode rfl z5 (by decide) rfl lk_Taking_224 rfl rfl (Nat.zero_le _) (Nat.le_of_ble_eq_true rfl) (Nat.le_of_ble_eq_true rfl) (by decide) (by decide) dX8_bring_128 (sp_kR fun v128 m128 hp128 => ?_)
      refine sp_areturn X (pc := 131) (by first | exact Or.inl ⟨_, rfl⟩ | exact Or.inr ⟨_, rfl⟩) dX8_bring_131 ⟨_, rfl, ?_⟩
      obtain ⟨b1, b2, b3, b4, ⟨ed', b5, b6, -, b8, b9⟩, b7, g1, g2, g3, g4, g5, g6, g7, g8⟩ := hp128
      obtain ⟨i1, i2⟩ := c1.grow F5 (Or.inl rfl) (by unfold sp_Tg; decide) l5 (by show n + lk < 200; omega) b2 b3 b4 b5 b6
      obtain ⟨-, i3⟩ := c1.grow (T := sp_T9) (sp_F.refl m119 A _) (Or.inl rfl) rfl l5 (by show n + lk < 200; omega) b2 b3 b4 b5 b6
      have W5 : pu_W (n + lk) (pu_nb kd nb0) nt0 (pu_go1 (pu_many T n f ((us.take (us.length - 1)).drop (us.length - 1 - lk))).1 th) := W3.mono (by unfold pu_nb; split <;> omega)
      have hkh : pu_kk kd = 0 ∨ (pu_kk kd = 1 ∧ pu_hh kd nb0 tg sh < pu_nb kd nb0) ∨ (pu_kk kd = 2 ∧ pu_hh kd nb0 tg sh < nt0) := by
        rcases hkr with rfl | rfl | rfl | rfl
        · exact Or.inl pu_kk0
        · exact Or.inr (Or.inl ⟨pu_kk1, by rw [pu_h1, pu_nb1]; omega⟩)
        · exact Or.inr (Or.inr ⟨pu_kk2, by rw [pu_h2]; exact (hot2 rfl).2⟩)
        · obtain ⟨q9, z1, z2⟩ := hsh3 rfl
          exact Or.inr (Or.inl ⟨pu_kk3, by rw [pu_h3, z1, pu_nb3]; exact z2⟩)
      subst hf3e
      obtain ⟨NA8, a1, a2, a3⟩ := N5.add (k := pu_kk kd) (d := dd) (h := pu_hh kd nb0 tg sh) (u := us.getD (us.length - 1) []) W5 c1 i3 (by unfold sp_T9; decide) (by unfold sp_T9; decide) l5 b5 b8 b9 b7 g1 g2 hft3 g3 hnv5 g4 g5 (g6.trans hdd5) g7 g8 hob (fun z => by
          first
            | rfl
            | exact absurd (by unfold pu_kk; rw [hb91, if_neg (by decide), if_pos rfl]) z) (fun z => by
          have hk2 : kd = 2 := pu_kk.two z
          have hh2 : pu_hh kd nb0 tg sh = tg := by unfold pu_hh; rw [if_neg (by rw [hk2]; decide), if_pos hk2]
          rw [hh2]
          first
            | exact ⟨o, rfl, (hot9 (hot2 hk2).1).2⟩
            | exact absurd hk2 hb91)
      refine ⟨i1, i2, NA8, BA', fun j hj => ?_, ?_, ?_, ?_, ?_, ?_, ?_⟩
      · rw [a1 j (by omega)]; exact NE3 j hj
      · rw [a2]; exact b1
      · exact a3
      · exact W5.add (by omega) hft3 hkh (hus _ (by omega)) hfi3
      · exact d3.F c1 i3 (by unfold sp_T9; decide)
      · rw [i3.I (c1.lt 7 10 (by decide) (by decide)) (by decide) (by unfold sp_T9; decide)]; exact h5825
      · rw [i3.L (c1.lt 7 10 (by decide) (by decide)) (fun _ => by unfold sp_T9; decide)]; exact h5835
    · refine sp_aload_n X (pc := 94) (r := some e) dX8_bring_94 rfl rfl ?_
      refine sp_getfield X (pc := 95) (c := 3) (i := 2) (t := 2) (a := e) (v := va_rf (some o)) rfl he4 (by decide) rfl (congrArg va_rf ((hR F4).2)) fl_Taking_183 dX8_bring_95 ?_
      refine sp_goto X (pc := 98) (tgt := 102) dX8_bring_98 (by decide) ?_
      refine sp_astore X (pc := 102) (lv' := [(4, false, va_rf (some o)), (0, false, va_rf (some (A 7))), (1, false, va_rf (some e)), (2, false, .int (nI us.length - 1)), (3, false, va_rf (some (NA3 f3)))]) dX8_bring_102  (by decide) rfl ?_
      refine sp_aload_n X (pc := 104) (r := some (A 7)) dX8_bring_104 rfl rfl ?_
      refine sp_getfield X (pc := 105) (c := 9) (i := 1) (t := 2) (a := (A 7)) (v := va_rf (some (A 5))) rfl w7 (by decide) rfl (congrArg va_rf (hS4.p 577 7 5 (by decide))) fl_Taking_15 dX8_bring_105 ?_
      refine sp_aload_n X (pc := 108) (r := some (NA3 f3)) dX8_bring_108 rfl rfl ?_
      refine sp_aload_n X (pc := 109) (r := some e) dX8_bring_109 rfl rfl ?_
      refine sp_getfield X (pc := 110) (c := 3) (i := 1) (t := 2) (a := e) (v := va_rf (some p)) rfl he4 (by decide) rfl (congrArg va_rf ((hR F4).1)) fl_Taking_97 dX8_bring_110 ?_
      refine sp_iload_n X (pc := 113) (x := (nI us.length - 1)) dX8_bring_113 rfl rfl ?_
      refine sp_callV X (pc := 114) (mc := 0) (ms := 0) (b := p) (c := 7) (r := (some p)) (As := [.int (nI us.length - 1)]) (rest := [va_rf (some (NA3 f3)), va_rf (some (A 5))]) (c_Parted_at l G _ hpt4) ok_Parted_at rfl hpt4.1 (by decide) rfl lk_Taking_112 rfl rfl (by simp [sp_cat_rf, sp_cat_i, sp_cat_l]) (Nat.le_of_ble_eq_true rfl) (Nat.le_of_ble_eq_true rfl) (Nat.zero_le _) (Nat.zero_le _) dX8_bring_114 (sp_kR fun v114 m114 hp114 => ?_)
      obtain ⟨hp114, hp114m⟩ := hp114; replace hp114m := (hp114m).symm; subst hp114m
      obtain ⟨nm, rfl, hnmt, hk114, -⟩ := hp114
      have hix : nI us.length - 1 = nI (us.length - 1) := by
        have := nI_pred (us.length - 1)
        rw [show us.length - 1 + 1 = us.length by omega] at this
        exact this
      rw [hix] at hk114
      have hnv := hNM (i := us.length - 1) I4 F4 hk114 (by omega)
      refine sp_aload_n X (pc := 117) (r := some (A 7)) dX8_bring_117 rfl rfl ?_
      refine sp_aload_n X (pc := 118) (r := some e) dX8_bring_118 rfl rfl ?_
      refine sp_callV X (pc := 119) (mc := 2) (ms := 1500) (b := (A 7)) (c := 9) (r := some (A 7)) (As := [va_rf (some e)]) (rest := [va_rf (some nm), va_rf (some (NA3 f3)), va_rf (some (A 5))]) (c_Taking_bodyFor l G _ hG I4 he4 (hkd9 F4) hsz4 hva4 js4.2.2.2.2.1 hcB4 hs10) ok_Taking_bodyFor rfl w7 (by decide) rfl lk_Taking_231 rfl rfl (by simp [sp_cat_rf, sp_cat_i, sp_cat_l]) (Nat.le_of_ble_eq_true rfl) (Nat.le_of_ble_eq_true rfl) (by omega) (by omega) dX8_bring_119 (sp_kR fun v119 m119 hp119 => ?_)
      obtain ⟨c1, c2, BA', d1, d2, d3, d4⟩ := hp119
      have hS119 := c1.S
      have z7 := hS119.k 7 10 (by decide)
      have z5 := hS119.k 5 11 (by decide)
      have F5 : sp_F m m119 A sp_Tg := (F4.mono (fun j h => by unfold sp_T8 at h; unfold sp_Tg; omega)).trans c2 (fun j h => by unfold sp_T10 at h; unfold sp_Tg; omega)
      have N5 := (N4.F I4 c2 (by unfold sp_T10; decide) (by unfold sp_T10; decide) (by unfold sp_T10; decide)).B W3 d1
      obtain ⟨⟨e3, l5, -⟩, -, -⟩ := id N5
      have hlo5 := c1.lo sp_ix9 l5
      have hf5 := (N5.2.2 f3 hft3).1
      have hn5 := c2.ty I4.wf (a := nm) hnmt (by decide)
      have hnv5 := hnv.F I4.wf c2
      have hot9 : sp_tv G m R o tg (TT tg) → m119.ty o = 8 ∧ sp_tv G m119 R o tg (TT tg) := fun z => ⟨F5.ty hI.wf (by obtain ⟨_, _, z2, _⟩ := z; exact z2.1) (by decide), z.F hI F5⟩
      have hdd5 : m119.fI 589 (A 7) = dd := by rw [c2.I (I4.lt 7 10 (by decide) (by decide)) (by decide) (by unfold sp_T10; decide)]; exact js4.2.2.2.2.2
      have h5825 : m119.fI 582 (A 7) = nI (md + (lk + 1)) := by rw [c2.I (I4.lt 7 10 (by decide) (by decide)) (by decide) (by unfold sp_T10; decide)]; exact h582
      have h5835 : m119.fL 583 (A 7) = (if kd = 1 then m.fL 583 (A 7) + sz else m.fL 583 (A 7)) := by rw [d4, F4.L l7 (fun _ => by unfold sp_T8; decide)]
      have hob : v119 = if pu_kk kd = 1 then some (BA' (pu_hh kd nb0 tg sh)) else none := by
        rw [d2]
        rcases hkr with rfl | rfl | rfl | rfl
        · rw [pu_kk0, if_neg (by decide), if_neg (by decide), hsh0 (Or.inl rfl)]; rfl
        · rw [pu_kk1, pu_h1, if_pos rfl, if_pos rfl]
        · rw [pu_kk2, if_neg (by decide), if_neg (by decide), hsh0 (Or.inr rfl)]; rfl
        · obtain ⟨q9, z1, z2⟩ := hsh3 rfl
          rw [pu_kk3, pu_h3, if_neg (by decide), if_pos rfl, z1]
          show some (BA q9) = some (BA' q9)
          rw [d1 q9 z2]
      have hobt : ∀ x, v119 = some x → m119.ty x = 2 := fun x hx => by
        rcases hkr with rfl | rfl | rfl | rfl
        · rw [hob, pu_kk0, if_neg (by decide)] at hx; cases hx
        · rw [hob, pu_kk1, if_pos rfl, pu_h1] at hx; cases hx; exact (d3.2 nb0 (by rw [pu_nb1]; omega)).1
        · rw [hob, pu_kk2, if_neg (by decide)] at hx; cases hx
        · obtain ⟨q9, z1, z2⟩ := hsh3 rfl
          rw [hob, pu_kk3, if_pos rfl, pu_h3, z1] at hx; cases hx; exact (d3.2 q9 (by rw [pu_nb3]; exact z2)).1
      refine sp_aload X (pc := 122) (r := (some o)) dX8_bring_122 rfl ?_
      refine sp_aload_n X (pc := 124) (r := some (A 7)) dX8_bring_124 rfl rfl ?_
      refine sp_getfield X (pc := 125) (c := 9) (i := 13) (t := 0) (a := (A 7)) (v := .int (m119.fI 589 (A 7))) rfl (by first | assumption | omega) (by decide) rfl rfl fl_Taking_70 dX8_bring_125 ?_
      refine sp_callV X (pc := 128) (mc := 2) (ms := 1000) (b := (A 5)) (c := 10) (r := (some (A 5))) (As := [va_rf (some (NA3 f3)), va_rf (some nm), va_rf v119, va_rf (some o), .int (m119.fI 589 (A 7))]) (rest := []) (c_Tree_addNode l G _ c1.J c1.tr hG c1.wf l5 (by omega) hlo5.1 hf5 hn5 hobt (fun x hx => by first | (cases hx; exact (hot9 (hot2 hb91).1).1) | cases hx) hS119.2.2.2.2.2.1.2) ok_Tree_addNode rfl z5 (by decide) rfl lk_Taking_224 rfl rfl (Nat.zero_le _) (Nat.le_of_ble_eq_true rfl) (Nat.le_of_ble_eq_true rfl) (by decide) (by decide) dX8_bring_128 (sp_kR fun v128 m128 hp128 => ?_)
      refine sp_areturn X (pc := 131) (by first | exact Or.inl ⟨_, rfl⟩ | exact Or.inr ⟨_, rfl⟩) dX8_bring_131 ⟨_, rfl, ?_⟩
      obtain ⟨b1, b2, b3, b4, ⟨ed', b5, b6, -, b8, b9⟩, b7, g1, g2, g3, g4, g5, g6, g7, g8⟩ := hp128
      obtain ⟨i1, i2⟩ := c1.grow F5 (Or.inl rfl) (by unfold sp_Tg; decide) l5 (by show n + lk < 200; omega) b2 b3 b4 b5 b6
      obtain ⟨-, i3⟩ := c1.grow (T := sp_T9) (sp_F.refl m119 A _) (Or.inl rfl) rfl l5 (by show n + lk < 200; omega) b2 b3 b4 b5 b6
      have W5 : pu_W (n + lk) (pu_nb kd nb0) nt0 (pu_go1 (pu_many T n f ((us.take (us.length - 1)).drop (us.length - 1 - lk))).1 th) := W3.mono (by unfold pu_nb; split <;> omega)
      have hkh : pu_kk kd = 0 ∨ (pu_kk kd = 1 ∧ pu_hh kd nb0 tg sh < pu_nb kd nb0) ∨ (pu_kk kd = 2 ∧ pu_hh kd nb0 tg sh < nt0) := by
        rcases hkr with rfl | rfl | rfl | rfl
        · exact Or.inl pu_kk0
        · exact Or.inr (Or.inl ⟨pu_kk1, by rw [pu_h1, pu_nb1]; omega⟩)
        · exact Or.inr (Or.inr ⟨pu_kk2, by rw [pu_h2]; exact (hot2 rfl).2⟩)
        · obtain ⟨q9, z1, z2⟩ := hsh3 rfl
          exact Or.inr (Or.inl ⟨pu_kk3, by rw [pu_h3, z1, pu_nb3]; exact z2⟩)
      subst hf3e
      obtain ⟨NA8, a1, a2, a3⟩ := N5.add (k := pu_kk kd) (d := dd) (h := pu_hh kd nb0 tg sh) (u := us.getD (us.length - 1) []) W5 c1 i3 (by unfold sp_T9; decide) (by unfold sp_T9; decide) l5 b5 b8 b9 b7 g1 g2 hft3 g3 hnv5 g4 g5 (g6.trans hdd5) g7 g8 hob (fun z => by
          first
            | rfl
            | exact absurd (by unfold pu_kk; rw [hb91, if_neg (by decide), if_pos rfl]) z) (fun z => by
          have hk2 : kd = 2 := pu_kk.two z
          have hh2 : pu_hh kd nb0 tg sh = tg := by unfold pu_hh; rw [if_neg (by rw [hk2]; decide), if_pos hk2]
          rw [hh2]
          first
            | exact ⟨o, rfl, (hot9 (hot2 hk2).1).2⟩
            | exact absurd hk2 hb91)
      refine ⟨i1, i2, NA8, BA', fun j hj => ?_, ?_, ?_, ?_, ?_, ?_, ?_⟩
      · rw [a1 j (by omega)]; exact NE3 j hj
      · rw [a2]; exact b1
      · exact a3
      · exact W5.add (by omega) hft3 hkh (hus _ (by omega)) hfi3
      · exact d3.F c1 i3 (by unfold sp_T9; decide)
      · rw [i3.I (c1.lt 7 10 (by decide) (by decide)) (by decide) (by unfold sp_T9; decide)]; exact h5825
      · rw [i3.L (c1.lt 7 10 (by decide) (by decide)) (fun _ => by unfold sp_T9; decide)]; exact h5835
  refine sp_aload_n X (pc := 0) (r := some e) dX8_bring_0 rfl rfl ?_
  refine sp_getfield X (pc := 1) (c := 3) (i := 1) (t := 2) (a := e) (v := va_rf (some p)) rfl (by first | assumption | omega) (by decide) rfl (congrArg va_rf hp1) fl_Taking_97 dX8_bring_1 ?_
  refine sp_callV X (pc := 4) (mc := 0) (ms := 0) (b := p) (c := 7) (r := (some p)) (As := []) (rest := []) (c_Parted_count l G _ hptp) ok_Parted_count rfl hptp.1 (by decide) rfl lk_Taking_107 rfl rfl (Nat.zero_le _) (Nat.le_of_ble_eq_true rfl) (Nat.le_of_ble_eq_true rfl) (Nat.zero_le _) (Nat.zero_le _) dX8_bring_4 (sp_kI fun v4 m4 hp4 => ?_)
  obtain ⟨hp4v, hp4⟩ := hp4; replace hp4 := (hp4).symm; subst hp4; replace hp4v := (hp4v).symm; subst hp4v
  refine sp_iconst X (pc := 7) (v := 1) dX8_bring_7 (by decide) ?_
  refine sp_isub X (pc := 8) dX8_bring_8 ?_
  refine sp_istore_n X (pc := 9) (lv' := [(2, false, .int ((nI us.length) - 1)), (0, false, va_rf (some (A 7))), (1, false, va_rf (some e))]) dX8_bring_9 rfl (by decide) rfl ?_
  refine sp_aload_n X (pc := 10) (r := some (A 7)) dX8_bring_10 rfl rfl ?_
  refine sp_getfield X (pc := 11) (c := 9) (i := 8) (t := 2) (a := (A 7)) (v := va_rf (some (NA f))) rfl (by first | assumption | omega) (by decide) rfl (congrArg va_rf hjs.1.1) fl_Taking_54 dX8_bring_11 ?_
  refine sp_astore_n X (pc := 14) (lv' := [(3, false, va_rf (some (NA f))), (2, false, .int ((nI us.length) - 1)), (0, false, va_rf (some (A 7))), (1, false, va_rf (some e))]) dX8_bring_14 rfl (by decide) rfl ?_
  refine sp_iload_n X (pc := 15) (x := ((nI us.length) - 1)) dX8_bring_15 rfl rfl ?_
  refine sp_aload_n X (pc := 16) (r := some (A 7)) dX8_bring_16 rfl rfl ?_
  refine sp_getfield X (pc := 17) (c := 9) (i := 9) (t := 0) (a := (A 7)) (v := .int (nI lk)) rfl (by first | assumption | omega) (by decide) rfl (congrArg Value.int hjs.2.1) fl_Taking_57 dX8_bring_17 ?_
  refine sp_isub X (pc := 20) dX8_bring_20 ?_
  refine sp_istore X (pc := 21) (lv' := [(4, false, .int (((nI us.length) - 1) - (nI lk))), (3, false, va_rf (some (NA f))), (2, false, .int ((nI us.length) - 1)), (0, false, va_rf (some (A 7))), (1, false, va_rf (some e))]) dX8_bring_21  (by decide) rfl ?_
  have loop23 : ∀ (dz : Nat) (mm : sp_M) (T9 : pu_N) (NA9 : Nat → Nat) (c f9 t kk nn : Nat), sp_I G P A mm → sp_F m mm A sp_T9 → sp_cN G mm A R TT t T9 NA9 BA → pu_W t nb0 nt0 T9 → f9 < t → pu_ins T9.o f9 → (∀ j, j < n → NA9 j = NA j) → pu_many T n f ((us.take (us.length - 1)).drop (us.length - 1 - lk)) = pu_many T9 t f9 ((us.take (us.length - 1)).drop (us.length - 1 - c)) → n ≤ t → t + c = n + lk → 2 * c + 4 ≤ kk → 1000 * c + 2500 ≤ nn → c = dz → w kk nn mm 23 [(0, false, va_rf (some (A 7))), (1, false, va_rf (some e)), (2, false, .int (nI us.length - 1)), (3, false, va_rf (some (NA9 f9))), (4, false, .int (nI us.length - 1 - nI c))] [] := by
    intro dz
    induction dz using Nat.strongRecOn with
    | ind dz ih =>
      intro mm T9 NA9 c f9 t kk nn I9 F9 N9 W9 hft hfi9 NE9 PM9 hnt9 ht9 hk9 hn9 hdz
      have hS9 := I9.S
      have u5 := hS9.k 5 11 (by decide)
      have u7 := hS9.k 7 10 (by decide)
      have he9 := F9.ty hI.wf he (by decide)
      have hpt9 := F9.pt hI I9 hptp
      obtain ⟨⟨e9, li9, -⟩, -, -⟩ := id N9
      have hlo9 := I9.lo sp_ix9 li9
      have hf9 := (N9.2.2 f9 hft).1
      have js9 := hjs.F l7 F9 (by unfold sp_T9; decide)
      refine sp_iload X (pc := 23) (x := (nI us.length - 1 - nI c)) dX8_bring_23 rfl ?_
      refine sp_iload_n X (pc := 25) (x := (nI us.length - 1)) dX8_bring_25 rfl rfl ?_
      refine sp_icmp_ge X (pc := 26) (tgt := 56) dX8_bring_26 (by decide) (fun hb26 => ?_) (fun hb26 => ?_)
      · have hc0 : c = 0 := sp_br3 (by omega) (by omega) hb26
        subst hc0
        refine sp_aload_n X (pc := 56) (r := some (A 7)) dX8_bring_56 rfl rfl ?_
        refine sp_getfield X (pc := 57) (c := 9) (i := 10) (t := 2) (a := (A 7)) (v := va_rf (mm.fR 586 (A 7))) rfl (by first | assumption | omega) (by decide) rfl rfl fl_Taking_60 dX8_bring_57 ?_
        refine sp_ifnull X (pc := 60) (tgt := 71) dX8_bring_60 (by decide) (fun hb60 => ?_) (fun ra60 hb60 => ?_)
        · have hth0 : th = none := by
            cases th with
            | none => rfl
            | some j => rw [js9.2.2.1] at hb60; cases hb60
          refine sp_pick X [0, 1, 2, 3] (lv' := [(0, false, va_rf (some (A 7))), (1, false, va_rf (some e)), (2, false, .int (nI us.length - 1)), (3, false, va_rf (some (NA9 f9)))]) rfl ?_
          refine sp_less X (k' := 4) (n' := 2500) (by omega) (by omega) ?_
          obtain rfl : t = n + lk := by omega
          rw [pu_drop0] at PM9
          have e1 : (pu_many T n f ((us.take (us.length - 1)).drop (us.length - 1 - lk))) = (T9, n + lk, f9) := PM9
          first
            | exact cut71 mm f9 NA9 I9 (F9.mono (fun j h => by unfold sp_T9 at h; unfold sp_T7; omega)) (by rw [e1, hth0]; exact N9) (by rw [e1, hth0]; exact W9) hft (by rw [e1, hth0]; exact hfi9) NE9 (by rw [e1])
            | exact cut71 _ f9 NA9 (I9.pI (by decide)) ((F9.mono (fun j h => by unfold sp_T9 at h; unfold sp_T7; omega)).pI (by unfold sp_T7; decide) (by decide)) (by rw [e1, hj]; exact N9.gone I9 W9.1.2 (by have := (hth j hj).2; omega)) (by rw [e1, hj]; exact W9.gone (hth j hj).1) hft (by rw [e1, hj]; exact hfi9) NE9 (by rw [e1])
        · obtain ⟨j, hj⟩ : ∃ j, th = some j := by
            cases th with
            | none => rw [js9.2.2.1] at hb60; cases hb60
            | some j => exact ⟨j, rfl⟩
          have hra : ra60 = NA9 j := by rw [js9.2.2.1, hj] at hb60; rw [NE9 j (hth j hj).2]; exact (Option.some.inj hb60).symm
          subst hra
          have hnt := (N9.2.2 j (by have := (hth j hj).2; omega)).1
          refine sp_aload_n X (pc := 63) (r := some (A 7)) dX8_bring_63 rfl rfl ?_
          refine sp_getfield X (pc := 64) (c := 9) (i := 10) (t := 2) (a := (A 7)) (v := va_rf (some (NA9 j))) rfl (by first | assumption | omega) (by decide) rfl (congrArg va_rf hb60) fl_Taking_60 dX8_bring_64 ?_
          refine sp_iconst X (pc := 67) (v := 1) dX8_bring_67 (by decide) ?_
          refine sp_putI X (pc := 68) (c := 5) (i := 7) (q := 327) (a := (NA9 j)) rfl hnt (by decide) rfl rfl (Or.inl rfl) ⟨rfl, rfl⟩ fl_Taking_228 dX8_bring_68 ?_
          refine sp_pick X [0, 1, 2, 3] (lv' := [(0, false, va_rf (some (A 7))), (1, false, va_rf (some e)), (2, false, .int (nI us.length - 1)), (3, false, va_rf (some (NA9 f9)))]) rfl ?_
          refine sp_less X (k' := 4) (n' := 2500) (by omega) (by omega) ?_
          obtain rfl : t = n + lk := by omega
          rw [pu_drop0] at PM9
          have e1 : (pu_many T n f ((us.take (us.length - 1)).drop (us.length - 1 - lk))) = (T9, n + lk, f9) := PM9
          first
            | exact cut71 mm f9 NA9 I9 (F9.mono (fun j h => by unfold sp_T9 at h; unfold sp_T7; omega)) (by rw [e1, hth0]; exact N9) (by rw [e1, hth0]; exact W9) hft (by rw [e1, hth0]; exact hfi9) NE9 (by rw [e1])
            | exact cut71 _ f9 NA9 (I9.pI (by decide)) ((F9.mono (fun j h => by unfold sp_T9 at h; unfold sp_T7; omega)).pI (by unfold sp_T7; decide) (by decide)) (by rw [e1, hj]; exact N9.gone I9 W9.1.2 (by have := (hth j hj).2; omega)) (by rw [e1, hj]; exact W9.gone (hth j hj).1) hft (by rw [e1, hj]; exact hfi9) NE9 (by rw [e1])
      · obtain ⟨d, hd⟩ : ∃ d, c = d + 1 := ⟨c - 1, by have := sp_br1 (by omega) (by omega) hb26; omega⟩
        subst hd
        refine sp_aload_n X (pc := 29) (r := some (A 7)) dX8_bring_29 rfl rfl ?_
        refine sp_getfield X (pc := 30) (c := 9) (i := 1) (t := 2) (a := (A 7)) (v := va_rf (some (A 5))) rfl (by first | assumption | omega) (by decide) rfl (congrArg va_rf (hS9.p 577 7 5 (by decide))) fl_Taking_15 dX8_bring_30 ?_
        refine sp_aload_n X (pc := 33) (r := some (NA9 f9)) dX8_bring_33 rfl rfl ?_
        refine sp_aload_n X (pc := 34) (r := some e) dX8_bring_34 rfl rfl ?_
        refine sp_getfield X (pc := 35) (c := 3) (i := 1) (t := 2) (a := e) (v := va_rf (some p)) rfl he9 (by decide) rfl (congrArg va_rf ((hR F9).1)) fl_Taking_97 dX8_bring_35 ?_
        refine sp_iload X (pc := 38) (x := (nI us.length - 1 - nI (d + 1))) dX8_bring_38 rfl ?_
        refine sp_callV X (pc := 40) (mc := 0) (ms := 0) (b := p) (c := 7) (r := (some p)) (As := [.int (nI us.length - 1 - nI (d + 1))]) (rest := [va_rf (some (NA9 f9)), va_rf (some (A 5))]) (c_Parted_at l G _ hpt9) ok_Parted_at rfl hpt9.1 (by decide) rfl lk_Taking_112 rfl rfl (by simp [sp_cat_rf, sp_cat_i, sp_cat_l]) (Nat.le_of_ble_eq_true rfl) (Nat.le_of_ble_eq_true rfl) (Nat.zero_le _) (Nat.zero_le _) dX8_bring_40 (sp_kR fun v40 m40 hp40 => ?_)
        obtain ⟨hp40, hp40m⟩ := hp40; replace hp40m := (hp40m).symm; subst hp40m
        obtain ⟨nm, rfl, hnmt, hk40, -⟩ := hp40
        have hix : nI us.length - 1 - nI (d + 1) = nI (us.length - 1 - (d + 1)) := sp_br4 (by omega)
        rw [hix] at hk40
        have hnv := hNM (i := us.length - 1 - (d + 1)) I9 F9 hk40 (by omega)
        refine sp_null X (pc := 43) dX8_bring_43 ?_
        refine sp_null X (pc := 44) dX8_bring_44 ?_
        refine sp_iconst X (pc := 45) (v := 0) dX8_bring_45 (by decide) ?_
        refine sp_callV X (pc := 46) (mc := 2) (ms := 1000) (b := (A 5)) (c := 10) (r := (some (A 5))) (As := [va_rf (some (NA9 f9)), va_rf (some nm), va_rf none, va_rf none, .int 0]) (rest := []) (c_Tree_addNode l G _ I9.J I9.tr hG I9.wf li9 (by omega) hlo9.1 hf9 hnmt (fun x hx => by cases hx) (fun x hx => by cases hx) (Or.inl rfl)) ok_Tree_addNode rfl u5 (by decide) rfl lk_Taking_224 rfl rfl (Nat.zero_le _) (Nat.le_of_ble_eq_true rfl) (Nat.le_of_ble_eq_true rfl) (by omega) (by omega) dX8_bring_46 (sp_kR fun v46 m46 hp46 => ?_)
        obtain ⟨b1, b2, b3, b4, ⟨ed', b5, b6, -, b8, b9⟩, b7, c1, c2, c3, c4, c5, c6, c7, c8⟩ := hp46
        obtain ⟨i1, i2⟩ := I9.grow F9 (Or.inl rfl) rfl li9 (by show t < 200; omega) b2 b3 b4 b5 b6
        obtain ⟨-, i3⟩ := I9.grow (T := sp_T9) (sp_F.refl mm A _) (Or.inl rfl) rfl li9 (by show t < 200; omega) b2 b3 b4 b5 b6
        obtain ⟨NA8, a1, a2, a3⟩ := N9.add (k := 0) (d := 0) (h := 0) W9 I9 i3 (by unfold sp_T9; decide) (by unfold sp_T9; decide) li9 b5 b8 b9 b7 c1 c2 hft c3 hnv c4 c5 c6 c7 c8 (by rw [if_neg (by decide)]) (fun _ => rfl) (fun z => absurd z (by decide))
        rw [← a2] at b1
        subst b1
        refine sp_astore_n X (pc := 49) (lv' := [(3, false, va_rf (some (NA8 t))), (0, false, va_rf (some (A 7))), (1, false, va_rf (some e)), (2, false, .int (nI us.length - 1)), (4, false, .int (nI us.length - 1 - nI (d + 1)))]) dX8_bring_49 rfl (by decide) rfl ?_
        refine sp_iinc X (pc := 50) (v := (nI us.length - 1 - nI d)) (lv' := [(4, false, .int (nI us.length - 1 - nI d)), (3, false, va_rf (some (NA8 t))), (0, false, va_rf (some (A 7))), (1, false, va_rf (some e)), (2, false, .int (nI us.length - 1))]) dX8_bring_50 rfl (sp_br2 us.length d) (by decide) rfl ?_
        refine sp_goto X (pc := 53) (tgt := 23) dX8_bring_53 (by decide) ?_
        refine sp_pick X [2, 3, 4, 1, 0] (lv' := [(0, false, va_rf (some (A 7))), (1, false, va_rf (some e)), (2, false, .int (nI us.length - 1)), (3, false, va_rf (some (NA8 t))), (4, false, .int (nI us.length - 1 - nI d))]) rfl ?_
        rw [pu_drop (by omega)] at PM9
        exact ih d (by omega) m46 (pu_add T9 t 0 0 f9 0 (us.getD (us.length - 1 - (d + 1)) [])) NA8 d t (t + 1) _ _ i1 i2 a3 (W9.add (by omega) hft (Or.inl rfl) (hus _ (by omega)) hfi9) (by omega) (pu_ins.new W9 hft hfi9) (fun j hj => by rw [a1 j (by omega)]; exact NE9 j hj) PM9 (by omega) (by omega) (by omega) (by omega) rfl
  refine sp_pick X [3, 4, 2, 1, 0] (lv' := [(0, false, va_rf (some (A 7))), (1, false, va_rf (some e)), (2, false, .int ((nI us.length) - 1)), (3, false, va_rf (some (NA f))), (4, false, .int (((nI us.length) - 1) - (nI lk)))]) rfl ?_
  exact loop23 _ m T NA lk f n _ _ hI (sp_F.refl m A sp_T9) hN hW hjs.1.2 hfi (fun _ _ => rfl) rfl (Nat.le_refl _) rfl (by omega) (by omega) rfl

theorem sp_cN.set {G : sp_G} {P : Nat → Prop} {m : sp_M} {A : Nat → Nat} {R : Int32} {TT : Nat → List Int32} {n i : Nat} {T : pu_N} {NA BA : Nat → Nat} {v : Int32} (hN : sp_cN G m A R TT n T NA BA) (hI : sp_I G P A m) (hn : n ≤ 200) (hi : i < n) : sp_cN G (m.pI 326 (NA i) v) A R TT n (pu_set T i v) NA BA := by
  obtain ⟨⟨e9, l1, l2⟩, h2, h3⟩ := id hN
  have hF : sp_F m (m.pI 326 (NA i) v) A (fun j => j = 326) := (sp_F.refl m A _).pI rfl (by decide)
  refine ⟨⟨e9, l1.pI (by decide), l2⟩, h2, fun j hj => ?_⟩
  obtain ⟨n1, n2, n3, ⟨nm, n4, n5⟩, ⟨n6, n7, n8⟩, n9, n10, n11⟩ := h3 j hj
  refine ⟨n1, by rw [sp_pI_fI, if_neg (by omega)]; exact n2, n3, ⟨nm, n4, n5.F hI.wf hF⟩, ⟨by rw [sp_pI_fI, if_neg (by omega)]; exact n6, ?_, by rw [sp_pI_fI, if_neg (by omega)]; exact n8⟩, n9, n10, fun z => ?_⟩
  · show (m.pI 326 (NA i) v).fI 326 (NA j) = if j = i then v else T.s j
    by_cases z : j = i
    · rw [sp_pI_fI, if_pos ⟨rfl, by rw [z]⟩, if_pos z]
    · rw [sp_pI_fI, if_neg (fun w => z (hN.inj hn hj hi w.2)), if_neg z]
      exact n7
  · obtain ⟨ta, z1, z2⟩ := n11 z
    exact ⟨ta, z1, z2.F hI hF⟩
/-- the notes -/
def sp_cQ (G : sp_G) (m : sp_M) (A NA : Nat → Nat) (ns : List (Nat × Int32)) : Prop := ∃ e16, sp_li G m (A 16) e16 ns.length ∧ ∀ i, i < ns.length → ∃ b, m.aR e16 i = some b ∧ m.ty b = 7 ∧ m.fR 384 b = some (NA (ns.getD i (0, 0)).1) ∧ m.fI 385 b = (ns.getD i (0, 0)).2
theorem sp_cQ.F {G : sp_G} {P : Nat → Prop} {m m' : sp_M} {A NA : Nat → Nat} {Q : Nat → Prop} {ns : List (Nat × Int32)} (h : sp_cQ G m A NA ns) (hI : sp_I G P A m) (hF : sp_F m m' A Q) (h16 : ¬ Q 16) : sp_cQ G m' A NA ns := by
  obtain ⟨e16, l1, l2⟩ := h
  have q := hF.el hI sp_ix16 h16 l1
  refine ⟨e16, q.1, fun i hi => ?_⟩
  obtain ⟨b, c1, c2, c3, c4⟩ := l2 i hi
  have hl : b < m.nx := hI.wf _ (by omega)
  exact ⟨b, by rw [q.2.1]; exact c1, hF.ty hI.wf c2 (by decide), by rw [hF.R hl (by decide)]; exact c3, by rw [hF.2.2.1 _ _ hl (by rintro (z | z); omega; omega)]; exact c4⟩
theorem sp_cQ.A {G : sp_G} {m : sp_M} {A NA NA' : Nat → Nat} {n : Nat} {ns : List (Nat × Int32)} (h : sp_cQ G m A NA ns) (hQ : pu_Q n ns) (hN : ∀ j, j < n → NA' j = NA j) : sp_cQ G m A NA' ns := by
  obtain ⟨e16, l1, l2⟩ := h
  refine ⟨e16, l1, fun i hi => ?_⟩
  obtain ⟨b, c1, c2, c3, c4⟩ := l2 i hi
  exact ⟨b, c1, c2, by rw [hN _ (hQ i hi).2.1]; exact c3, c4⟩
set_option maxRecDepth 20000 in
theorem c_Taking_setNotedRights (l : Launch) (G : sp_G) (m : sp_M) {P : Nat → Prop} {A : Nat → Nat} (hG : sp_GS G) (hI : sp_I G P A m) {R : Int32} {TT : Nat → List Int32} {n nb0 nt0 : Nat} {T : pu_N} {NA BA : Nat → Nat} (hN : sp_cN G m A R TT n T NA BA) (hW : pu_W n nb0 nt0 T) {ns : List (Nat × Int32)} (hcQ : sp_cQ G m A NA ns) (hQ : pu_Q n ns) : sp_C l G M_Taking_setNotedRights 0 0 [.ref (A 7)] m (sp_oV fun m' => sp_I G P A m' ∧ sp_F m m' A sp_T16 ∧ sp_cN G m' A R TT n (pu_fin T ns) NA BA ∧ sp_cQ G m' A NA []) := by
  refine sp_enter (lv0 := [(0, false, va_rf (some (A 7)))]) "SafePaths$Taking" false rfl (by decide) (fun h => by cases h) (Nat.le_of_ble_eq_true rfl) rfl ?_
  intro w X
  have hS := hI.S
  have t7 := hS.k 7 10 (by decide)
  have t16 := hS.k 16 1 (by decide)
  obtain ⟨ed, hli, hel⟩ := id hcQ
  have hs9 : ns.length ≤ 100000 := by have := hli.2.2.2.1; have := hli.2.2.2.2.1; omega
  have hTF : ∀ (X : Nat → Prop), (∀ j, X j → j = 326) → ∀ j, X j → sp_T16 j := fun X h j z => Or.inr (h j z)
  refine sp_iconst X (pc := 0) (v := 0) dX8_setNotedRights_0 (by decide) ?_
  refine sp_istore_n X (pc := 1) (lv' := [(1, false, .int 0), (0, false, va_rf (some (A 7)))]) dX8_setNotedRights_1 rfl (by decide) rfl ?_
  have loop2 : ∀ (dz : Nat) (mm : sp_M) (i : Nat), sp_I G P A mm → sp_F m mm A (fun j => j = 326) → sp_cN G mm A R TT n (pu_fin T (ns.take i)) NA BA → i ≤ ns.length → ns.length - i = dz → w 0 0 mm 2 [(0, false, va_rf (some (A 7))), (1, false, .int (nI i))] [] := by
    intro dz
    induction dz using Nat.strongRecOn with
    | ind dz ih =>
      intro mm i I9 F9 N9 hi0 hdz
      have hS9 := I9.S
      have u7 := hS9.k 7 10 (by decide)
      have u16 := hS9.k 16 1 (by decide)
      have q9 := F9.el hI sp_ix16 (by decide) hli
      have li9 := q9.1
      refine sp_iload_n X (pc := 2) (x := nI i) dX8_setNotedRights_2 rfl rfl ?_
      refine sp_aload_n X (pc := 3) (r := some (A 7)) dX8_setNotedRights_3 rfl rfl ?_
      refine sp_getfield X (pc := 4) (c := 9) (i := 3) (t := 2) (a := (A 7)) (v := va_rf (some (A 16))) rfl (by first | assumption | omega) (by decide) rfl (congrArg va_rf (hS9.p 579 7 16 (by decide))) fl_Taking_26 dX8_setNotedRights_4 ?_
      refine sp_callV X (pc := 7) (mc := 0) (ms := 0) (b := (A 16)) (c := 0) (r := (some (A 16))) (As := []) (rest := [.int (nI i)]) (c_List_size l G _ u16) ok_List_size rfl u16 (by decide) rfl lk_Taking_74 rfl rfl (by simp [sp_cat_rf, sp_cat_i, sp_cat_l]) (Nat.le_of_ble_eq_true rfl) (Nat.le_of_ble_eq_true rfl) (Nat.zero_le _) (Nat.zero_le _) dX8_setNotedRights_7 (sp_kI fun v7 m7 hp7 => ?_)
      obtain ⟨hp7v, hp7⟩ := hp7; replace hp7 := (hp7).symm; subst hp7; replace hp7v := (hp7v).symm; subst hp7v
      rw [li9.2.2.1]
      refine sp_icmp_ge X (pc := 10) (tgt := 42) dX8_setNotedRights_10 (by decide) (fun hb10 => ?_) (fun hb10 => ?_)
      · have hi : ns.length ≤ i := sp_nge hb10 (by omega) (by omega)
        obtain rfl : i = ns.length := by omega
        refine sp_aload_n X (pc := 42) (r := some (A 7)) dX8_setNotedRights_42 rfl rfl ?_
        refine sp_getfield X (pc := 43) (c := 9) (i := 3) (t := 2) (a := (A 7)) (v := va_rf (some (A 16))) rfl (by first | assumption | omega) (by decide) rfl (congrArg va_rf (hS9.p 579 7 16 (by decide))) fl_Taking_26 dX8_setNotedRights_43 ?_
        refine sp_callV X (pc := 46) (mc := 0) (ms := 0) (b := (A 16)) (c := 0) (r := (some (A 16))) (As := []) (rest := []) (c_List_clear l G _ li9) ok_List_clear rfl u16 (by decide) rfl lk_Taking_91 rfl rfl (Nat.zero_le _) (Nat.le_of_ble_eq_true rfl) (Nat.le_of_ble_eq_true rfl) (Nat.zero_le _) (Nat.zero_le _) dX8_setNotedRights_46 (sp_kV fun m46 hp46 => ?_)
        have hsh : sp_sh mm m46 (A 16) ed 0 := by rw [hp46]; exact sp_sh.cl mm (A 16) ed _ _
        have h25 : mm.ty ed = 25 → m46.aR ed = mm.aR ed := fun z => by
          have h0 : ns.length = 0 := by have := li9.2.2.2.1; have := li9.2.2.2.2.2; omega
          rw [hp46]
          funext q
          rw [sp_wR_aR, if_pos rfl, if_neg (by omega)]
        refine sp_return X (pc := 49) dX8_setNotedRights_49 ⟨rfl, ?_⟩
        have F7 : sp_F mm m46 A (fun j => j = 16) := (sp_F.refl mm A _).shr I9.J li9 hsh sp_ix16 rfl h25
        have I7 := I9.shr sp_ix16 li9 (Nat.zero_le _) (by decide) hsh
        rw [List.take_length] at N9
        exact ⟨I7.1, ((sp_F.refl m A sp_T16).trans F9 (fun j z => Or.inr z)).trans F7 (fun j z => Or.inl z), N9.F I9 F7 (by decide) (by decide) (by decide), ed, I7.2, fun i hi => absurd hi (Nat.not_lt_zero _)⟩
      · have hi : i < ns.length := sp_nlt hb10 (by omega)
        obtain ⟨b, hb0, hbt0, hf0, hv0⟩ := hel i hi
        have hbl : b < m.nx := hI.wf b (by omega)
        have hb : mm.aR ed i = some b := by rw [q9.2.1]; exact hb0
        have hbt : mm.ty b = 7 := F9.ty hI.wf hbt0 (by decide)
        have hf : mm.fR 384 b = some (NA (ns.getD i (0, 0)).1) := by rw [F9.R hbl (by decide)]; exact hf0
        have hv : mm.fI 385 b = (ns.getD i (0, 0)).2 := by rw [F9.2.2.1 _ _ hbl (by rintro (z | z); omega; omega)]; exact hv0
        have hq := hQ i hi
        have hft := (N9.2.2 _ hq.2.1).1
        have hfit : sp_b01 (mm.fI 385 b) := by rw [hv]; exact hq.2.2
        refine sp_aload_n X (pc := 13) (r := some (A 7)) dX8_setNotedRights_13 rfl rfl ?_
        refine sp_getfield X (pc := 14) (c := 9) (i := 3) (t := 2) (a := (A 7)) (v := va_rf (some (A 16))) rfl (by first | assumption | omega) (by decide) rfl (congrArg va_rf (hS9.p 579 7 16 (by decide))) fl_Taking_26 dX8_setNotedRights_14 ?_
        refine sp_iload_n X (pc := 17) (x := nI i) dX8_setNotedRights_17 rfl rfl ?_
        refine sp_callV X (pc := 18) (mc := 0) (ms := 0) (b := (A 16)) (c := 0) (r := (some (A 16))) (As := [.int (nI i)]) (rest := []) (c_List_get l G _ li9 hi) ok_List_get rfl u16 (by decide) rfl lk_Taking_78 rfl rfl (Nat.zero_le _) (Nat.le_of_ble_eq_true rfl) (Nat.le_of_ble_eq_true rfl) (Nat.zero_le _) (Nat.zero_le _) dX8_setNotedRights_18 (sp_kR fun v18 m18 hp18 => ?_)
        obtain ⟨hp18v, hp18⟩ := hp18; replace hp18 := (hp18).symm; subst hp18; replace hp18v := (hp18v).symm; subst hp18v
        rw [hb]
        refine sp_checkcast X (pc := 21) (a := b) (c := 6) rfl hbt (by decide) cl_Taking_82 dX8_setNotedRights_21 ?_
        refine sp_astore_n X (pc := 24) (lv' := [(2, false, va_rf (some b)), (0, false, va_rf (some (A 7))), (1, false, .int (nI i))]) dX8_setNotedRights_24 rfl (by decide) rfl ?_
        refine sp_aload_n X (pc := 25) (r := some b) dX8_setNotedRights_25 rfl rfl ?_
        refine sp_getfield X (pc := 26) (c := 6) (i := 0) (t := 2) (a := b) (v := va_rf (some (NA (ns.getD i (0, 0)).1))) rfl hbt (by decide) rfl (congrArg va_rf hf) fl_Taking_84 dX8_setNotedRights_26 ?_
        refine sp_aload_n X (pc := 29) (r := some b) dX8_setNotedRights_29 rfl rfl ?_
        refine sp_getfield X (pc := 30) (c := 6) (i := 1) (t := 0) (a := b) (v := .int (mm.fI 385 b)) rfl hbt (by decide) rfl rfl fl_Taking_85 dX8_setNotedRights_30 ?_
        refine sp_putI X (pc := 33) (c := 5) (i := 6) (q := 326) (a := (NA (ns.getD i (0, 0)).1)) rfl hft (by decide) rfl rfl (Or.inl rfl) hfit.fit fl_Taking_88 dX8_setNotedRights_33 ?_
        refine sp_iinc X (pc := 36) (v := nI (i + 1)) (lv' := [(1, false, .int (nI (i + 1))), (2, false, va_rf (some b)), (0, false, va_rf (some (A 7)))]) dX8_setNotedRights_36 rfl (nI_1 i) (by decide) rfl ?_
        refine sp_goto X (pc := 39) (tgt := 2) dX8_setNotedRights_39 (by decide) ?_
        refine sp_pick X [2, 0] (lv' := [(0, false, va_rf (some (A 7))), (1, false, .int (nI (i + 1)))]) rfl ?_
        rw [hv]
        exact ih (ns.length - (i + 1)) (by omega) _ (i + 1) (I9.pI (by decide)) (F9.pI rfl (by decide)) (by rw [pu_take1 hi, pu_fin.snoc]; exact N9.set I9 hW.1.2 hq.2.1) (by omega) rfl
  refine sp_pick X [1, 0] (lv' := [(0, false, va_rf (some (A 7))), (1, false, .int 0)]) rfl ?_
  exact loop2 _ m 0 hI (sp_F.refl m A _) hN (Nat.zero_le _) rfl
set_option maxRecDepth 20000 in
theorem c_Taking_changeNodeLimit (l : Launch) (G : sp_G) (m : sp_M) {P : Nat → Prop} {A : Nat → Nat} (hG : sp_GS G) (hI : sp_I G P A m) {n : Int64} : sp_C l G M_Taking_changeNodeLimit 0 0 [.ref (A 7), .long n] m (sp_oL fun v m' => v = m.fL 580 (A 7) ∧ m' = m.pL 580 (A 7) n) := by
  refine sp_enter (lv0 := [(0, false, va_rf (some (A 7))), (1, true, .long n)]) "SafePaths$Taking" false rfl (by decide) (fun h => by cases h) (Nat.le_of_ble_eq_true rfl) rfl ?_
  intro w X
  have hS := hI.S
  have t7 := hS.k 7 10 (by decide)
  refine sp_aload_n X (pc := 0) (r := some (A 7)) dX8_changeNodeLimit_0 rfl rfl ?_
  refine sp_getfield X (pc := 1) (c := 9) (i := 4) (t := 1) (a := (A 7)) (v := .long (m.fL 580 (A 7))) rfl (by first | assumption | omega) (by decide) rfl rfl fl_Taking_32 dX8_changeNodeLimit_1 ?_
  refine sp_lstore_n X (pc := 4) (lv' := [(3, true, .long (m.fL 580 (A 7))), (0, false, va_rf (some (A 7))), (1, true, .long n)]) dX8_changeNodeLimit_4 rfl (by decide) rfl ?_
  refine sp_aload_n X (pc := 5) (r := some (A 7)) dX8_changeNodeLimit_5 rfl rfl ?_
  refine sp_lload_n X (pc := 6) (x := n) dX8_changeNodeLimit_6 rfl rfl ?_
  refine sp_putL X (pc := 7) (c := 9) (i := 4) (q := 580) (a := (A 7)) rfl (by first | assumption | omega) (by decide) rfl rfl (Or.inl rfl)  fl_Taking_32 dX8_changeNodeLimit_7 ?_
  refine sp_lload_n X (pc := 10) (x := (m.fL 580 (A 7))) dX8_changeNodeLimit_10 rfl rfl ?_
  refine sp_lreturn X (pc := 11) dX8_changeNodeLimit_11 ⟨_, rfl, ?_⟩
  exact ⟨rfl, rfl⟩
set_option maxRecDepth 20000 in
theorem c_Taking_changeSizeLimit (l : Launch) (G : sp_G) (m : sp_M) {P : Nat → Prop} {A : Nat → Nat} (hG : sp_GS G) (hI : sp_I G P A m) {n : Int64} : sp_C l G M_Taking_changeSizeLimit 0 0 [.ref (A 7), .long n] m (sp_oL fun v m' => v = m.fL 581 (A 7) ∧ m' = m.pL 581 (A 7) n) := by
  refine sp_enter (lv0 := [(0, false, va_rf (some (A 7))), (1, true, .long n)]) "SafePaths$Taking" false rfl (by decide) (fun h => by cases h) (Nat.le_of_ble_eq_true rfl) rfl ?_
  intro w X
  have hS := hI.S
  have t7 := hS.k 7 10 (by decide)
  refine sp_aload_n X (pc := 0) (r := some (A 7)) dX8_changeSizeLimit_0 rfl rfl ?_
  refine sp_getfield X (pc := 1) (c := 9) (i := 5) (t := 1) (a := (A 7)) (v := .long (m.fL 581 (A 7))) rfl (by first | assumption | omega) (by decide) rfl rfl fl_Taking_38 dX8_changeSizeLimit_1 ?_
  refine sp_lstore_n X (pc := 4) (lv' := [(3, true, .long (m.fL 581 (A 7))), (0, false, va_rf (some (A 7))), (1, true, .long n)]) dX8_changeSizeLimit_4 rfl (by decide) rfl ?_
  refine sp_aload_n X (pc := 5) (r := some (A 7)) dX8_changeSizeLimit_5 rfl rfl ?_
  refine sp_lload_n X (pc := 6) (x := n) dX8_changeSizeLimit_6 rfl rfl ?_
  refine sp_putL X (pc := 7) (c := 9) (i := 5) (q := 581) (a := (A 7)) rfl (by first | assumption | omega) (by decide) rfl rfl (Or.inl rfl)  fl_Taking_38 dX8_changeSizeLimit_7 ?_
  refine sp_lload_n X (pc := 10) (x := (m.fL 581 (A 7))) dX8_changeSizeLimit_10 rfl rfl ?_
  refine sp_lreturn X (pc := 11) dX8_changeSizeLimit_11 ⟨_, rfl, ?_⟩
  exact ⟨rfl, rfl⟩
set_option maxRecDepth 20000 in
theorem c_Taking_notedCount (l : Launch) (G : sp_G) (m : sp_M) {P : Nat → Prop} {A : Nat → Nat} (hG : sp_GS G) (hI : sp_I G P A m) : sp_C l G M_Taking_notedCount 0 0 [.ref (A 7)] m (sp_oI fun v m' => v = m.fI 2 (A 16) ∧ m' = m) := by
  refine sp_enter (lv0 := [(0, false, va_rf (some (A 7)))]) "SafePaths$Taking" false rfl (by decide) (fun h => by cases h) (Nat.le_of_ble_eq_true rfl) rfl ?_
  intro w X
  have hS := hI.S
  have t7 := hS.k 7 10 (by decide)
  have t16 := hS.k 16 1 (by decide)
  refine sp_aload_n X (pc := 0) (r := some (A 7)) dX8_notedCount_0 rfl rfl ?_
  refine sp_getfield X (pc := 1) (c := 9) (i := 3) (t := 2) (a := (A 7)) (v := va_rf (some (A 16))) rfl (by first | assumption | omega) (by decide) rfl (congrArg va_rf (hS.p 579 7 16 (by decide))) fl_Taking_26 dX8_notedCount_1 ?_
  refine sp_callV X (pc := 4) (mc := 0) (ms := 0) (b := (A 16)) (c := 0) (r := (some (A 16))) (As := []) (rest := []) (c_List_size l G _ t16) ok_List_size rfl t16 (by decide) rfl lk_Taking_74 rfl rfl (Nat.zero_le _) (Nat.le_of_ble_eq_true rfl) (Nat.le_of_ble_eq_true rfl) (Nat.zero_le _) (Nat.zero_le _) dX8_notedCount_4 (sp_kI fun v4 m4 hp4 => ?_)
  obtain ⟨hp4v, hp4⟩ := hp4; replace hp4 := (hp4).symm; subst hp4; replace hp4v := (hp4v).symm; subst hp4v
  refine sp_ireturn X (pc := 7) dX8_notedCount_7 rfl ⟨_, rfl, ?_⟩
  exact ⟨rfl, rfl⟩
