
def sp_Tj (j : Nat) : Prop := j = 15 ∨ j = 706 ∨ j = 707 ∨ j = 708 ∨ j = 584 ∨ j = 585 ∨ j = 586 ∨ j = 587 ∨ j = 588 ∨ j = 589
theorem sp_15.j : ∀ j, sp_15 j → sp_Tj j := by unfold sp_15 sp_Tj; omega
theorem sp_Tj.n9 : ¬ sp_Tj 9 := by unfold sp_Tj; omega
theorem sp_Tj.n6 : ¬ sp_Tj 326 := by unfold sp_Tj; omega
theorem sp_Tj.n7 : ¬ sp_Tj 327 := by unfold sp_Tj; omega
theorem sp_I.lt {G : sp_G} {P : Nat → Prop} {A : Nat → Nat} {m : sp_M} (h : sp_I G P A m) (i c : Nat) (hi : (i, c) ∈ sp_knd) (hc : c ≠ 0) : A i < m.nx := h.wf _ (by rw [h.S.k i c hi]; exact hc)
/-- what the last judgement found -/
def sp_js (m : sp_M) (A NA BA : Nat → Nat) (n f lk : Nat) (th al sh : Option Nat) (dd : Int32) : Prop := (m.fR 584 (A 7) = some (NA f) ∧ f < n) ∧ m.fI 585 (A 7) = nI lk ∧ m.fR 586 (A 7) = th.map NA ∧ m.fR 587 (A 7) = al.map NA ∧ m.fR 588 (A 7) = sh.map BA ∧ m.fI 589 (A 7) = dd
theorem sp_js.a {m : sp_M} {A NA BA : Nat → Nat} {n f lk : Nat} {th al sh : Option Nat} {dd : Int32} (h : sp_js m A NA BA n f lk th al sh dd) {j : Nat} (hj : j < n) : sp_js (m.pR 584 (A 7) (some (NA j))) A NA BA n j lk th al sh dd :=
  ⟨⟨by rw [sp_pR_fR, if_pos ⟨rfl, rfl⟩], hj⟩, h.2.1, by rw [sp_pR_fR, if_neg (by omega)]; exact h.2.2.1, by rw [sp_pR_fR, if_neg (by omega)]; exact h.2.2.2.1, by rw [sp_pR_fR, if_neg (by omega)]; exact h.2.2.2.2.1, h.2.2.2.2.2⟩
theorem sp_js.b {m : sp_M} {A NA BA : Nat → Nat} {n f lk : Nat} {th al sh : Option Nat} {dd : Int32} (h : sp_js m A NA BA n f lk th al sh dd) (q : Nat) : sp_js (m.pI 585 (A 7) (nI q)) A NA BA n f q th al sh dd :=
  ⟨h.1, by rw [sp_pI_fI, if_pos ⟨rfl, rfl⟩], h.2.2.1, h.2.2.2.1, h.2.2.2.2.1, by rw [sp_pI_fI, if_neg (by omega)]; exact h.2.2.2.2.2⟩
theorem sp_js.c {m : sp_M} {A NA BA : Nat → Nat} {n f lk : Nat} {th al sh : Option Nat} {dd : Int32} (h : sp_js m A NA BA n f lk th al sh dd) (o : Option Nat) : sp_js (m.pR 586 (A 7) (o.map NA)) A NA BA n f lk o al sh dd :=
  ⟨⟨by rw [sp_pR_fR, if_neg (by omega)]; exact h.1.1, h.1.2⟩, h.2.1, by rw [sp_pR_fR, if_pos ⟨rfl, rfl⟩], by rw [sp_pR_fR, if_neg (by omega)]; exact h.2.2.2.1, by rw [sp_pR_fR, if_neg (by omega)]; exact h.2.2.2.2.1, h.2.2.2.2.2⟩
theorem sp_js.d {m : sp_M} {A NA BA : Nat → Nat} {n f lk : Nat} {th al sh : Option Nat} {dd : Int32} (h : sp_js m A NA BA n f lk th al sh dd) (o : Option Nat) : sp_js (m.pR 587 (A 7) (o.map NA)) A NA BA n f lk th o sh dd :=
  ⟨⟨by rw [sp_pR_fR, if_neg (by omega)]; exact h.1.1, h.1.2⟩, h.2.1, by rw [sp_pR_fR, if_neg (by omega)]; exact h.2.2.1, by rw [sp_pR_fR, if_pos ⟨rfl, rfl⟩], by rw [sp_pR_fR, if_neg (by omega)]; exact h.2.2.2.2.1, h.2.2.2.2.2⟩
theorem sp_js.e {m : sp_M} {A NA BA : Nat → Nat} {n f lk : Nat} {th al sh : Option Nat} {dd : Int32} (h : sp_js m A NA BA n f lk th al sh dd) (o : Option Nat) : sp_js (m.pR 588 (A 7) (o.map BA)) A NA BA n f lk th al o dd :=
  ⟨⟨by rw [sp_pR_fR, if_neg (by omega)]; exact h.1.1, h.1.2⟩, h.2.1, by rw [sp_pR_fR, if_neg (by omega)]; exact h.2.2.1, by rw [sp_pR_fR, if_neg (by omega)]; exact h.2.2.2.1, by rw [sp_pR_fR, if_pos ⟨rfl, rfl⟩], h.2.2.2.2.2⟩
theorem sp_js.g {m : sp_M} {A NA BA : Nat → Nat} {n f lk : Nat} {th al sh : Option Nat} {dd : Int32} (h : sp_js m A NA BA n f lk th al sh dd) (x : Int32) : sp_js (m.pI 589 (A 7) x) A NA BA n f lk th al sh x :=
  ⟨h.1, by rw [sp_pI_fI, if_neg (by omega)]; exact h.2.1, h.2.2.1, h.2.2.2.1, h.2.2.2.2.1, by rw [sp_pI_fI, if_pos ⟨rfl, rfl⟩]⟩
theorem sp_js.new {m m1 m2 m3 m4 m5 m6 : sp_M} {A NA BA : Nat → Nat} {n : Nat} (hn : 1 < n) (h1 : m1 = m.pR 584 (A 7) (some (NA 1))) (h2 : m2 = m1.pI 585 (A 7) 0) (h3 : m3 = m2.pR 586 (A 7) none) (h4 : m4 = m3.pR 587 (A 7) none) (h5 : m5 = m4.pR 588 (A 7) none) (h6 : m6 = m5.pI 589 (A 7) 0) : sp_js m6 A NA BA n 1 0 none none none 0 := by
  have a1 : m1.fR 584 (A 7) = some (NA 1) := by rw [h1, sp_pR_fR, if_pos ⟨rfl, rfl⟩]
  have b1 : m2.fI 585 (A 7) = nI 0 := by rw [h2, sp_pI_fI, if_pos ⟨rfl, rfl⟩]; rfl
  have a2 : m2.fR 584 (A 7) = some (NA 1) := by rw [h2]; exact a1
  have a3 : m3.fR 584 (A 7) = some (NA 1) := by rw [h3, sp_pR_fR, if_neg (by omega)]; exact a2
  have c3 : m3.fR 586 (A 7) = none := by rw [h3, sp_pR_fR, if_pos ⟨rfl, rfl⟩]
  have b3 : m3.fI 585 (A 7) = nI 0 := by rw [h3]; exact b1
  have a4 : m4.fR 584 (A 7) = some (NA 1) := by rw [h4, sp_pR_fR, if_neg (by omega)]; exact a3
  have c4 : m4.fR 586 (A 7) = none := by rw [h4, sp_pR_fR, if_neg (by omega)]; exact c3
  have d4 : m4.fR 587 (A 7) = none := by rw [h4, sp_pR_fR, if_pos ⟨rfl, rfl⟩]
  have b4 : m4.fI 585 (A 7) = nI 0 := by rw [h4]; exact b3
  have a5 : m5.fR 584 (A 7) = some (NA 1) := by rw [h5, sp_pR_fR, if_neg (by omega)]; exact a4
  have c5 : m5.fR 586 (A 7) = none := by rw [h5, sp_pR_fR, if_neg (by omega)]; exact c4
  have d5 : m5.fR 587 (A 7) = none := by rw [h5, sp_pR_fR, if_neg (by omega)]; exact d4
  have e5 : m5.fR 588 (A 7) = none := by rw [h5, sp_pR_fR, if_pos ⟨rfl, rfl⟩]
  have b5 : m5.fI 585 (A 7) = nI 0 := by rw [h5]; exact b4
  exact ⟨⟨by rw [h6]; exact a5, hn⟩, by rw [h6, sp_pI_fI, if_neg (by omega)]; exact b5, by rw [h6]; exact c5, by rw [h6]; exact d5, by rw [h6]; exact e5, by rw [h6, sp_pI_fI, if_pos ⟨rfl, rfl⟩]⟩
theorem sp_js.F {m m' : sp_M} {A NA BA : Nat → Nat} {T : Nat → Prop} {n f lk : Nat} {th al sh : Option Nat} {dd : Int32} (h : sp_js m A NA BA n f lk th al sh dd) (l7 : A 7 < m.nx) (hF : sp_F m m' A T) (hT : ¬ T 584 ∧ ¬ T 585 ∧ ¬ T 586 ∧ ¬ T 587 ∧ ¬ T 588 ∧ ¬ T 589) : sp_js m' A NA BA n f lk th al sh dd := by
  unfold sp_js
  rw [hF.R5 l7 (by decide) hT.1, hF.I l7 (by decide) hT.2.1, hF.R5 l7 (by decide) hT.2.2.1, hF.R5 l7 (by decide) hT.2.2.2.1, hF.R5 l7 (by decide) hT.2.2.2.2.1, hF.I l7 (by decide) hT.2.2.2.2.2]
  exact h
set_option maxRecDepth 20000 in
theorem c_Taking_forgetLastJudgement (l : Launch) (G : sp_G) (m : sp_M) {P : Nat → Prop} {A : Nat → Nat} (hG : sp_GS G) (hI : sp_I G P A m) {R : Int32} {TT : Nat → List Int32} {n nb0 nt0 : Nat} {T : pu_N} {NA BA : Nat → Nat} (hN : sp_cN G m A R TT n T NA BA) (hW : pu_W n nb0 nt0 T) : sp_C l G M_Taking_forgetLastJudgement 0 0 [.ref (A 7)] m (sp_oV fun m' => sp_I G P A m' ∧ sp_F m m' A sp_Tj ∧ sp_js m' A NA BA n 1 0 none none none 0) := by
  refine sp_enter (lv0 := [(0, false, va_rf (some (A 7)))]) "SafePaths$Taking" false rfl (by decide) (fun h => by cases h) (Nat.le_of_ble_eq_true rfl) rfl ?_
  intro w X
  have hS := hI.S
  have t5 := hS.k 5 11 (by decide)
  have t7 := hS.k 7 10 (by decide)
  have t12 := hS.k 12 6 (by decide)
  have hn4 := hW.1.1
  refine sp_aload_n X (pc := 0) (r := some (A 7)) dX8_forgetLastJudgement_0 rfl rfl ?_
  refine sp_aload_n X (pc := 1) (r := some (A 7)) dX8_forgetLastJudgement_1 rfl rfl ?_
  refine sp_getfield X (pc := 2) (c := 9) (i := 1) (t := 2) (a := (A 7)) (v := va_rf (some (A 5))) rfl (by first | assumption | omega) (by decide) rfl (congrArg va_rf (hS.p 577 7 5 (by decide))) fl_Taking_15 dX8_forgetLastJudgement_2 ?_
  refine sp_getfield X (pc := 5) (c := 10) (i := 4) (t := 2) (a := (A 5)) (v := va_rf (some (A 12))) rfl (by first | assumption | omega) (by decide) rfl (congrArg va_rf (hS.p 644 5 12 (by decide))) fl_Taking_48 dX8_forgetLastJudgement_5 ?_
  refine sp_putR X (pc := 8) (c := 9) (i := 8) (q := 584) (a := (A 7)) rfl (by first | assumption | omega) (by decide) rfl rfl (Or.inl rfl)  fl_Taking_54 dX8_forgetLastJudgement_8 ?_
  refine sp_aload_n X (pc := 11) (r := some (A 7)) dX8_forgetLastJudgement_11 rfl rfl ?_
  refine sp_iconst X (pc := 12) (v := 0) dX8_forgetLastJudgement_12 (by decide) ?_
  refine sp_putI X (pc := 13) (c := 9) (i := 9) (q := 585) (a := (A 7)) rfl (by first | assumption | omega) (by decide) rfl rfl (Or.inl rfl) ⟨rfl, rfl⟩ fl_Taking_57 dX8_forgetLastJudgement_13 ?_
  refine sp_aload_n X (pc := 16) (r := some (A 7)) dX8_forgetLastJudgement_16 rfl rfl ?_
  refine sp_null X (pc := 17) dX8_forgetLastJudgement_17 ?_
  refine sp_putR X (pc := 18) (c := 9) (i := 10) (q := 586) (a := (A 7)) rfl (by first | assumption | omega) (by decide) rfl rfl (Or.inl rfl)  fl_Taking_60 dX8_forgetLastJudgement_18 ?_
  refine sp_aload_n X (pc := 21) (r := some (A 7)) dX8_forgetLastJudgement_21 rfl rfl ?_
  refine sp_null X (pc := 22) dX8_forgetLastJudgement_22 ?_
  refine sp_putR X (pc := 23) (c := 9) (i := 11) (q := 587) (a := (A 7)) rfl (by first | assumption | omega) (by decide) rfl rfl (Or.inl rfl)  fl_Taking_63 dX8_forgetLastJudgement_23 ?_
  refine sp_aload_n X (pc := 26) (r := some (A 7)) dX8_forgetLastJudgement_26 rfl rfl ?_
  refine sp_null X (pc := 27) dX8_forgetLastJudgement_27 ?_
  refine sp_putR X (pc := 28) (c := 9) (i := 12) (q := 588) (a := (A 7)) rfl (by first | assumption | omega) (by decide) rfl rfl (Or.inl rfl)  fl_Taking_66 dX8_forgetLastJudgement_28 ?_
  refine sp_aload_n X (pc := 31) (r := some (A 7)) dX8_forgetLastJudgement_31 rfl rfl ?_
  refine sp_iconst X (pc := 32) (v := 0) dX8_forgetLastJudgement_32 (by decide) ?_
  refine sp_putI X (pc := 33) (c := 9) (i := 13) (q := 589) (a := (A 7)) rfl (by first | assumption | omega) (by decide) rfl rfl (Or.inl rfl) ⟨rfl, rfl⟩ fl_Taking_70 dX8_forgetLastJudgement_33 ?_
  refine sp_return X (pc := 36) dX8_forgetLastJudgement_36 ⟨rfl, ?_⟩
  have q1 : sp_I G P A (m.pR 584 (A 7) (some (A 12))) := hI.pR (Or.inr (Or.inl rfl)) (fun x hx => by cases hx; rw [if_neg (by decide)]; exact t12) (fun _ => by simp)
  have q2 := ((q1.pI (k := 585) (a := A 7) (v := 0) (by decide)).pR (k := 586) (a := A 7) (v := none) (by decide) (fun x hx => by cases hx) (fun z => by omega))
  have q3 := ((q2.pR (k := 587) (a := A 7) (v := none) (by decide) (fun x hx => by cases hx) (fun z => by omega)).pR (k := 588) (a := A 7) (v := none) (by decide) (fun x hx => by cases hx) (fun z => by omega))
  have hj9 := sp_js.new (m := m) (A := A) (NA := NA) (BA := BA) (n := n) (by omega) rfl rfl rfl rfl rfl rfl
  rw [hN.2.1.2.1] at hj9
  exact ⟨q3.dead (Or.inl rfl), ((((((sp_F.refl m A sp_Tj).pR (by unfold sp_Tj; decide) (by decide)).pI (by unfold sp_Tj; decide) (by decide)).pR (by unfold sp_Tj; decide) (by decide)).pR (by unfold sp_Tj; decide) (by decide)).pR (by unfold sp_Tj; decide) (by decide)).pI (by unfold sp_Tj; decide) (by decide), hj9⟩
set_option maxRecDepth 20000 in
theorem c_Taking_nextBy (l : Launch) (G : sp_G) (m : sp_M) {P : Nat → Prop} {A : Nat → Nat} (hG : sp_GS G) (hI : sp_I G P A m) {R : Int32} {TT : Nat → List Int32} {n nb0 nt0 : Nat} {T : pu_N} {NA BA : Nat → Nat} (hN : sp_cN G m A R TT n T NA BA) (hW : pu_W n nb0 nt0 T) (hcR : sp_cR m A R) {f lk : Nat} {th al sh : Option Nat} {dd : Int32} (hjs : sp_js m A NA BA n f lk th al sh dd) (hlk : lk ≤ 100) {nm : Nat} {u : List Int32} (hnv : sp_nv m nm u) : sp_C l G M_Taking_nextBy 0 0 [.ref (A 7), .ref nm] m (sp_oR fun v m' => (∃ o, ((0 < lk ∧ o = none) ∨ (lk = 0 ∧ pu_in R n T f u o)) ∧ v = o.map NA) ∧ m' = m) := by
  refine sp_enter (lv0 := [(0, false, va_rf (some (A 7))), (1, false, va_rf (some nm))]) "SafePaths$Taking" false rfl (by decide) (fun h => by cases h) (Nat.le_of_ble_eq_true rfl) rfl ?_
  intro w X
  have hS := hI.S
  have t5 := hS.k 5 11 (by decide)
  have t7 := hS.k 7 10 (by decide)
  refine sp_aload_n X (pc := 0) (r := some (A 7)) dX8_nextBy_0 rfl rfl ?_
  refine sp_getfield X (pc := 1) (c := 9) (i := 9) (t := 0) (a := (A 7)) (v := .int (nI lk)) rfl (by first | assumption | omega) (by decide) rfl (congrArg Value.int hjs.2.1) fl_Taking_57 dX8_nextBy_1 ?_
  refine sp_if_le X (pc := 4) (tgt := 11) dX8_nextBy_4 (by decide) (fun hb4 => ?_) (fun hb4 => ?_)
  · have hl0 : lk = 0 := by
      have := sp_nge (a := 0) hb4 (by omega) (by omega)
      omega
    refine sp_aload_n X (pc := 11) (r := some (A 7)) dX8_nextBy_11 rfl rfl ?_
    refine sp_getfield X (pc := 12) (c := 9) (i := 1) (t := 2) (a := (A 7)) (v := va_rf (some (A 5))) rfl (by first | assumption | omega) (by decide) rfl (congrArg va_rf (hS.p 577 7 5 (by decide))) fl_Taking_15 dX8_nextBy_12 ?_
    refine sp_aload_n X (pc := 15) (r := some (A 7)) dX8_nextBy_15 rfl rfl ?_
    refine sp_getfield X (pc := 16) (c := 9) (i := 8) (t := 2) (a := (A 7)) (v := va_rf (some (NA f))) rfl (by first | assumption | omega) (by decide) rfl (congrArg va_rf hjs.1.1) fl_Taking_54 dX8_nextBy_16 ?_
    refine sp_aload_n X (pc := 19) (r := some nm) dX8_nextBy_19 rfl rfl ?_
    refine sp_callV X (pc := 20) (mc := 0) (ms := 0) (b := (A 5)) (c := 10) (r := (some (A 5))) (As := [va_rf (some (NA f)), va_rf (some nm)]) (rest := []) (c_Tree_childOf l G _ hI.J hI.tr hN hW hcR.2.1 hjs.1.2 hnv) ok_Tree_childOf rfl t5 (by decide) rfl lk_Taking_147 rfl rfl (Nat.zero_le _) (Nat.le_of_ble_eq_true rfl) (Nat.le_of_ble_eq_true rfl) (Nat.zero_le _) (Nat.zero_le _) dX8_nextBy_20 (sp_kR fun v20 m20 hp20 => ?_)
    obtain ⟨hp20, hp20m⟩ := hp20; replace hp20m := (hp20m).symm; subst hp20m
    refine sp_areturn X (pc := 23) (by first | exact Or.inl ⟨_, rfl⟩ | exact Or.inr ⟨_, rfl⟩) dX8_nextBy_23 ⟨_, rfl, ?_⟩
    first
      | exact ⟨⟨none, Or.inl ⟨hl0, rfl⟩, rfl⟩, rfl⟩
      | (obtain ⟨o, q1, q2⟩ := hp20
         exact ⟨⟨o, Or.inr ⟨hl0, q1⟩, q2⟩, rfl⟩)
  · have hl0 : 0 < lk := sp_nlt (a := 0) hb4 (by omega)
    refine sp_null X (pc := 7) dX8_nextBy_7 ?_
    refine sp_goto X (pc := 8) (tgt := 23) dX8_nextBy_8 (by decide) ?_
    refine sp_areturn X (pc := 23) (by first | exact Or.inl ⟨_, rfl⟩ | exact Or.inr ⟨_, rfl⟩) dX8_nextBy_23 ⟨_, rfl, ?_⟩
    first
      | exact ⟨⟨none, Or.inl ⟨hl0, rfl⟩, rfl⟩, rfl⟩
      | (obtain ⟨o, q1, q2⟩ := hp20
         exact ⟨⟨o, Or.inr ⟨hl0, q1⟩, q2⟩, rfl⟩)
set_option maxRecDepth 20000 in
theorem c_Taking_isShut (l : Launch) (G : sp_G) (m : sp_M) {P : Nat → Prop} {A : Nat → Nat} (hG : sp_GS G) (hI : sp_I G P A m) {R : Int32} {TT : Nat → List Int32} {n nb0 nt0 : Nat} {T : pu_N} {NA BA : Nat → Nat} (hN : sp_cN G m A R TT n T NA BA) (hW : pu_W n nb0 nt0 T) {f lk : Nat} {th al sh : Option Nat} {dd : Int32} (hjs : sp_js m A NA BA n f lk th al sh dd) (hlk : lk ≤ 100) : sp_C l G M_Taking_isShut 0 0 [.ref (A 7)] m (sp_oI fun v m' => sp_bo v (lk = 0 ∧ ¬ T.s f = 0) ∧ m' = m) := by
  refine sp_enter (lv0 := [(0, false, va_rf (some (A 7)))]) "SafePaths$Taking" false rfl (by decide) (fun h => by cases h) (Nat.le_of_ble_eq_true rfl) rfl ?_
  intro w X
  have hS := hI.S
  have t7 := hS.k 7 10 (by decide)
  have hfot := (hN.2.2 f hjs.1.2).1
  have hsf := (hN.2.2 f hjs.1.2).2.2.2.2.1.2.1
  refine sp_aload_n X (pc := 0) (r := some (A 7)) dX8_isShut_0 rfl rfl ?_
  refine sp_getfield X (pc := 1) (c := 9) (i := 9) (t := 0) (a := (A 7)) (v := .int (nI lk)) rfl (by first | assumption | omega) (by decide) rfl (congrArg Value.int hjs.2.1) fl_Taking_57 dX8_isShut_1 ?_
  refine sp_if_ne X (pc := 4) (tgt := 21) dX8_isShut_4 (by decide) (fun hb4 => ?_) (fun hb4 => ?_)
  · refine sp_iconst X (pc := 21) (v := 0) dX8_isShut_21 (by decide) ?_
    refine sp_ireturn X (pc := 22) dX8_isShut_22 rfl ⟨_, rfl, ?_⟩
    first
      | exact ⟨sp_bo.t ⟨hl0, fun z => hb14 (hsf.trans z)⟩, rfl⟩
      | exact ⟨sp_bo.f (fun z => z.2 (hsf.symm.trans hb14)), rfl⟩
      | exact ⟨sp_bo.f (fun z => hb4 (by rw [z.1]; rfl)), rfl⟩
  · have hl0 : lk = 0 := sp_neq (b := 0) hb4 (by omega) (by omega)
    refine sp_aload_n X (pc := 7) (r := some (A 7)) dX8_isShut_7 rfl rfl ?_
    refine sp_getfield X (pc := 8) (c := 9) (i := 8) (t := 2) (a := (A 7)) (v := va_rf (some (NA f))) rfl (by first | assumption | omega) (by decide) rfl (congrArg va_rf hjs.1.1) fl_Taking_54 dX8_isShut_8 ?_
    refine sp_getfield X (pc := 11) (c := 5) (i := 6) (t := 0) (a := (NA f)) (v := .int (m.fI 326 (NA f))) rfl hfot (by decide) rfl rfl fl_Taking_88 dX8_isShut_11 ?_
    refine sp_if_eq X (pc := 14) (tgt := 21) dX8_isShut_14 (by decide) (fun hb14 => ?_) (fun hb14 => ?_)
    · refine sp_iconst X (pc := 21) (v := 0) dX8_isShut_21 (by decide) ?_
      refine sp_ireturn X (pc := 22) dX8_isShut_22 rfl ⟨_, rfl, ?_⟩
      first
        | exact ⟨sp_bo.t ⟨hl0, fun z => hb14 (hsf.trans z)⟩, rfl⟩
        | exact ⟨sp_bo.f (fun z => z.2 (hsf.symm.trans hb14)), rfl⟩
        | exact ⟨sp_bo.f (fun z => hb4 (by rw [z.1]; rfl)), rfl⟩
    · refine sp_iconst X (pc := 17) (v := 1) dX8_isShut_17 (by decide) ?_
      refine sp_goto X (pc := 18) (tgt := 22) dX8_isShut_18 (by decide) ?_
      refine sp_ireturn X (pc := 22) dX8_isShut_22 rfl ⟨_, rfl, ?_⟩
      first
        | exact ⟨sp_bo.t ⟨hl0, fun z => hb14 (hsf.trans z)⟩, rfl⟩
        | exact ⟨sp_bo.f (fun z => z.2 (hsf.symm.trans hb14)), rfl⟩
        | exact ⟨sp_bo.f (fun z => hb4 (by rw [z.1]; rfl)), rfl⟩
set_option maxRecDepth 20000 in
theorem c_Taking_judgeLack (l : Launch) (G : sp_G) (m : sp_M) {P : Nat → Prop} {A : Nat → Nat} (hG : sp_GS G) (hI : sp_I G P A m) {R : Int32} {TT : Nat → List Int32} {n nb0 nt0 : Nat} {T : pu_N} {NA BA : Nat → Nat} (hN : sp_cN G m A R TT n T NA BA) (hW : pu_W n nb0 nt0 T) (hcR : sp_cR m A R) {f lk : Nat} {th al sh : Option Nat} {dd : Int32} (hjs : sp_js m A NA BA n f lk th al sh dd) (hlk : lk ≤ 100) : sp_C l G M_Taking_judgeLack 0 0 [.ref (A 7)] m (sp_oI fun v m' => sp_I G P A m' ∧ sp_F m m' A sp_Tj ∧ ∃ lk', sp_js m' A NA BA n f lk' th al sh dd ∧ ((v = -13 ∧ sp_hr R 32 = 0 ∧ lk' = lk) ∨ (v = -16 ∧ ¬ sp_hr R 32 = 0 ∧ lk = 0 ∧ ¬ T.s f = 0 ∧ lk' = lk) ∨ (v = 0 ∧ ¬ sp_hr R 32 = 0 ∧ ¬ (lk = 0 ∧ ¬ T.s f = 0) ∧ lk' = lk + 1))) := by
  refine sp_enter (lv0 := [(0, false, va_rf (some (A 7)))]) "SafePaths$Taking" false rfl (by decide) (fun h => by cases h) (Nat.le_of_ble_eq_true rfl) rfl ?_
  intro w X
  have hS := hI.S
  have t0 := hS.k 0 9 (by decide)
  have t7 := hS.k 7 10 (by decide)
  refine sp_aload_n X (pc := 0) (r := some (A 7)) dX8_judgeLack_0 rfl rfl ?_
  refine sp_getfield X (pc := 1) (c := 9) (i := 0) (t := 2) (a := (A 7)) (v := va_rf (some (A 0))) rfl (by first | assumption | omega) (by decide) rfl (congrArg va_rf (hS.p 576 7 0 (by decide))) fl_Taking_9 dX8_judgeLack_1 ?_
  refine sp_getfield X (pc := 4) (c := 8) (i := 5) (t := 0) (a := (A 0)) (v := .int (m.fI 517 (A 0))) rfl (by first | assumption | omega) (by decide) rfl rfl fl_Taking_151 dX8_judgeLack_4 ?_
  refine sp_if_ne X (pc := 7) (tgt := 13) dX8_judgeLack_7 (by decide) (fun hb7 => ?_) (fun hb7 => ?_)
  · refine sp_aload_n X (pc := 13) (r := some (A 7)) dX8_judgeLack_13 rfl rfl ?_
    refine sp_callV X (pc := 14) (mc := 0) (ms := 0) (b := (A 7)) (c := 9) (r := some (A 7)) (As := []) (rest := []) (c_Taking_isShut l G _ hG hI hN hW hjs hlk) ok_Taking_isShut rfl t7 (by decide) rfl lk_Taking_156 rfl rfl (Nat.zero_le _) (Nat.le_of_ble_eq_true rfl) (Nat.le_of_ble_eq_true rfl) (Nat.zero_le _) (Nat.zero_le _) dX8_judgeLack_14 (sp_kI fun v14 m14 hp14 => ?_)
    obtain ⟨hp14, hp14m⟩ := hp14; replace hp14m := (hp14m).symm; subst hp14m
    refine sp_if_eq X (pc := 17) (tgt := 23) dX8_judgeLack_17 (by decide) (fun hb17 => ?_) (fun hb17 => ?_)
    · refine sp_aload_n X (pc := 23) (r := some (A 7)) dX8_judgeLack_23 rfl rfl ?_
      refine sp_dup X (pc := 24) dX8_judgeLack_24 (sp_cat_rf _) ?_
      refine sp_getfield X (pc := 25) (c := 9) (i := 9) (t := 0) (a := (A 7)) (v := .int (nI lk)) rfl (by first | assumption | omega) (by decide) rfl (congrArg Value.int hjs.2.1) fl_Taking_57 dX8_judgeLack_25 ?_
      refine sp_iconst X (pc := 28) (v := 1) dX8_judgeLack_28 (by decide) ?_
      refine sp_iadd X (pc := 29) dX8_judgeLack_29 ?_
      rw [show ((nI lk) + 1) = nI (lk + 1) from nI_1 lk]
      refine sp_putI X (pc := 30) (c := 9) (i := 9) (q := 585) (a := (A 7)) rfl (by first | assumption | omega) (by decide) rfl rfl (Or.inl rfl) ⟨rfl, rfl⟩ fl_Taking_57 dX8_judgeLack_30 ?_
      refine sp_iconst X (pc := 33) (v := 0) dX8_judgeLack_33 (by decide) ?_
      refine sp_ireturn X (pc := 34) dX8_judgeLack_34 rfl ⟨_, rfl, ?_⟩
      exact ⟨hI.pI (by decide), (sp_F.refl m A sp_Tj).pI (by unfold sp_Tj; decide) (by decide), lk + 1, hjs.b (lk + 1), Or.inr (Or.inr ⟨rfl, hcR.2.2.2.2.2.mp hb7, hp14.eq hb17, rfl⟩)⟩
    · refine sp_bipush X (pc := 20) (v := (-16)) dX8_judgeLack_20 (by decide) ?_
      refine sp_ireturn X (pc := 22) dX8_judgeLack_22 rfl ⟨_, rfl, ?_⟩
      exact ⟨hI, sp_F.refl m A sp_Tj, lk, hjs, Or.inr (Or.inl ⟨rfl, hcR.2.2.2.2.2.mp hb7, (hp14.ne hb17).1, (hp14.ne hb17).2, rfl⟩)⟩
  · refine sp_bipush X (pc := 10) (v := (-13)) dX8_judgeLack_10 (by decide) ?_
    refine sp_ireturn X (pc := 12) dX8_judgeLack_12 rfl ⟨_, rfl, ?_⟩
    exact ⟨hI, sp_F.refl m A sp_Tj, lk, hjs, Or.inl ⟨rfl, Classical.byContradiction fun z => (hcR.2.2.2.2.2.mpr z) hb7, rfl⟩⟩
set_option maxRecDepth 20000 in
theorem c_Taking_isRefusedMeeting (l : Launch) (G : sp_G) (m : sp_M) {P : Nat → Prop} {A : Nat → Nat} (hG : sp_GS G) (hI : sp_I G P A m) {R : Int32} {TT : Nat → List Int32} {n nb0 nt0 : Nat} {T : pu_N} {NA BA : Nat → Nat} (hN : sp_cN G m A R TT n T NA BA) (hW : pu_W n nb0 nt0 T) (hcR : sp_cR m A R) {j nm : Nat} {u : List Int32} (hj : j < n) (hnv : sp_nv m nm u) : sp_C l G M_Taking_isRefusedMeeting 0 0 [.ref (A 7), .ref (NA j), .ref nm] m (sp_oI fun v m' => sp_bo v (sp_hr R 16 = 0 ∧ ¬ T.w j = u) ∧ m' = m) := by
  refine sp_enter (lv0 := [(0, false, va_rf (some (A 7))), (1, false, va_rf (some (NA j))), (2, false, va_rf (some nm))]) "SafePaths$Taking" false rfl (by decide) (fun h => by cases h) (Nat.le_of_ble_eq_true rfl) rfl ?_
  intro w X
  have hS := hI.S
  have t0 := hS.k 0 9 (by decide)
  have t7 := hS.k 7 10 (by decide)
  obtain ⟨nd1, -, -, ⟨nb, hnb, hnbv⟩, -⟩ := hN.2.2 j hj
  obtain ⟨nbb, nbs, hnmb, -, -⟩ := id hnbv
  obtain ⟨nm2b, nm2s, hnm2, -, -⟩ := id hnv
  refine sp_aload_n X (pc := 0) (r := some (A 7)) dX8_isRefusedMeeting_0 rfl rfl ?_
  refine sp_getfield X (pc := 1) (c := 9) (i := 0) (t := 2) (a := (A 7)) (v := va_rf (some (A 0))) rfl (by first | assumption | omega) (by decide) rfl (congrArg va_rf (hS.p 576 7 0 (by decide))) fl_Taking_9 dX8_isRefusedMeeting_1 ?_
  refine sp_getfield X (pc := 4) (c := 8) (i := 4) (t := 0) (a := (A 0)) (v := .int (m.fI 516 (A 0))) rfl (by first | assumption | omega) (by decide) rfl rfl fl_Taking_160 dX8_isRefusedMeeting_4 ?_
  refine sp_if_ne X (pc := 7) (tgt := 25) dX8_isRefusedMeeting_7 (by decide) (fun hb7 => ?_) (fun hb7 => ?_)
  · refine sp_iconst X (pc := 25) (v := 0) dX8_isRefusedMeeting_25 (by decide) ?_
    refine sp_ireturn X (pc := 26) dX8_isRefusedMeeting_26 rfl ⟨_, rfl, ?_⟩
    first
      | exact ⟨sp_bo.t ⟨Classical.byContradiction fun z => (hcR.2.2.2.2.1.mpr z) hb7, hp15.eq hb18⟩, rfl⟩
      | exact ⟨sp_bo.f (fun z => hcR.2.2.2.2.1.mp hb7 z.1), rfl⟩
      | exact ⟨sp_bo.f (fun z => z.2 (hp15.ne hb18)), rfl⟩
  · refine sp_aload_n X (pc := 10) (r := some (NA j)) dX8_isRefusedMeeting_10 rfl rfl ?_
    refine sp_getfield X (pc := 11) (c := 5) (i := 2) (t := 2) (a := (NA j)) (v := va_rf (some nb)) rfl nd1 (by decide) rfl (congrArg va_rf hnb) fl_Taking_163 dX8_isRefusedMeeting_11 ?_
    refine sp_aload_n X (pc := 14) (r := some nm) dX8_isRefusedMeeting_14 rfl rfl ?_
    refine sp_callV X (pc := 15) (mc := 0) (ms := 0) (b := nb) (c := 4) (r := (some nb)) (As := [va_rf (some nm)]) (rest := []) (c_Name_isSameAs l G _ hnmb hnm2) ok_Name_isSameAs rfl hnmb.1 (by decide) rfl lk_Taking_167 rfl rfl (Nat.zero_le _) (Nat.le_of_ble_eq_true rfl) (Nat.le_of_ble_eq_true rfl) (Nat.zero_le _) (Nat.zero_le _) dX8_isRefusedMeeting_15 (sp_kI fun v15 m15 hp15 => ?_)
    obtain ⟨hp15, hp15m⟩ := hp15; replace hp15m := (hp15m).symm; subst hp15m
    rw [propext (sp_eqA_pu hnmb hnm2 hnbv hnv)] at hp15
    refine sp_if_ne X (pc := 18) (tgt := 25) dX8_isRefusedMeeting_18 (by decide) (fun hb18 => ?_) (fun hb18 => ?_)
    · refine sp_iconst X (pc := 25) (v := 0) dX8_isRefusedMeeting_25 (by decide) ?_
      refine sp_ireturn X (pc := 26) dX8_isRefusedMeeting_26 rfl ⟨_, rfl, ?_⟩
      first
        | exact ⟨sp_bo.t ⟨Classical.byContradiction fun z => (hcR.2.2.2.2.1.mpr z) hb7, hp15.eq hb18⟩, rfl⟩
        | exact ⟨sp_bo.f (fun z => hcR.2.2.2.2.1.mp hb7 z.1), rfl⟩
        | exact ⟨sp_bo.f (fun z => z.2 (hp15.ne hb18)), rfl⟩
    · refine sp_iconst X (pc := 21) (v := 1) dX8_isRefusedMeeting_21 (by decide) ?_
      refine sp_goto X (pc := 22) (tgt := 26) dX8_isRefusedMeeting_22 (by decide) ?_
      refine sp_ireturn X (pc := 26) dX8_isRefusedMeeting_26 rfl ⟨_, rfl, ?_⟩
      first
        | exact ⟨sp_bo.t ⟨Classical.byContradiction fun z => (hcR.2.2.2.2.1.mpr z) hb7, hp15.eq hb18⟩, rfl⟩
        | exact ⟨sp_bo.f (fun z => hcR.2.2.2.2.1.mp hb7 z.1), rfl⟩
        | exact ⟨sp_bo.f (fun z => z.2 (hp15.ne hb18)), rfl⟩
set_option maxRecDepth 20000 in
theorem c_Taking_judgeWayPart (l : Launch) (G : sp_G) (m : sp_M) {P : Nat → Prop} {A : Nat → Nat} (hG : sp_GS G) (hI : sp_I G P A m) {R : Int32} {TT : Nat → List Int32} {n nb0 nt0 : Nat} {T : pu_N} {NA BA : Nat → Nat} (hN : sp_cN G m A R TT n T NA BA) (hW : pu_W n nb0 nt0 T) (hcR : sp_cR m A R) {f lk : Nat} {th al sh : Option Nat} {dd : Int32} (hjs : sp_js m A NA BA n f lk th al sh dd) (hlk : lk ≤ 100) {nm : Nat} {u : List Int32} (hnv : sp_nv m nm u) : sp_C l G M_Taking_judgeWayPart 0 0 [.ref (A 7), .ref nm] m (sp_oI fun v m' => sp_I G P A m' ∧ sp_F m m' A sp_Tj ∧ ∃ f' lk', sp_js m' A NA BA n f' lk' th al sh dd ∧ ((v = 0 ∧ lk' ≤ lk + 1 ∧ ∀ us r, us ≠ [] → pu_wk R n T (¬ sp_hr R 32 = 0) f' lk' us r → pu_wk R n T (¬ sp_hr R 32 = 0) f lk (u :: us) r) ∨ (¬ v = 0 ∧ lk' ≤ lk + 1 ∧ ∀ us r, us ≠ [] → r.1 = v → pu_wk R n T (¬ sp_hr R 32 = 0) f lk (u :: us) r))) := by
  refine sp_enter (lv0 := [(0, false, va_rf (some (A 7))), (1, false, va_rf (some nm))]) "SafePaths$Taking" false rfl (by decide) (fun h => by cases h) (Nat.le_of_ble_eq_true rfl) rfl ?_
  intro w X
  have hS := hI.S
  have t0 := hS.k 0 9 (by decide)
  have t7 := hS.k 7 10 (by decide)
  refine sp_aload_n X (pc := 0) (r := some (A 7)) dX8_judgeWayPart_0 rfl rfl ?_
  refine sp_aload_n X (pc := 1) (r := some nm) dX8_judgeWayPart_1 rfl rfl ?_
  refine sp_callV X (pc := 2) (mc := 0) (ms := 0) (b := (A 7)) (c := 9) (r := some (A 7)) (As := [va_rf (some nm)]) (rest := []) (c_Taking_nextBy l G _ hG hI hN hW hcR hjs hlk hnv) ok_Taking_nextBy rfl t7 (by decide) rfl lk_Taking_130 rfl rfl (Nat.zero_le _) (Nat.le_of_ble_eq_true rfl) (Nat.le_of_ble_eq_true rfl) (Nat.zero_le _) (Nat.zero_le _) dX8_judgeWayPart_2 (sp_kR fun v2 m2 hp2 => ?_)
  obtain ⟨hp2, hp2m⟩ := hp2; replace hp2m := (hp2m).symm; subst hp2m
  obtain ⟨o, ho, hv2⟩ := hp2
  refine sp_astore_n X (pc := 5) (lv' := [(2, false, va_rf v2), (0, false, va_rf (some (A 7))), (1, false, va_rf (some nm))]) dX8_judgeWayPart_5 rfl (by decide) rfl ?_
  refine sp_aload_n X (pc := 6) (r := v2) dX8_judgeWayPart_6 rfl rfl ?_
  refine sp_ifnonnull X (pc := 7) (tgt := 15) dX8_judgeWayPart_7 (by decide) (fun ra7 hb7 => ?_) (fun hb7 => ?_)
  · obtain ⟨j, hj⟩ : ∃ j, o = some j := by
      cases o with
      | none => rw [hv2] at hb7; cases hb7
      | some j => exact ⟨j, rfl⟩
    subst hj
    have hra : ra7 = NA j := by rw [hv2] at hb7; exact (Option.some.inj hb7).symm
    subst hra
    subst hb7
    obtain ⟨hl0, hin⟩ : lk = 0 ∧ pu_in R n T f u (some j) := by
      rcases ho with ⟨-, z⟩ | z
      · cases z
      · exact z
    have hjn := hin.lt.1
    have hnd := hN.2.2 j hjn
    have hjk := hW.2.2.2.1 j hjn
    refine sp_aload_n X (pc := 15) (r := some (A 7)) dX8_judgeWayPart_15 rfl rfl ?_
    refine sp_aload_n X (pc := 16) (r := (some (NA j))) dX8_judgeWayPart_16 rfl rfl ?_
    refine sp_aload_n X (pc := 17) (r := some nm) dX8_judgeWayPart_17 rfl rfl ?_
    refine sp_callV X (pc := 18) (mc := 0) (ms := 0) (b := (A 7)) (c := 9) (r := some (A 7)) (As := [va_rf (some (NA j)), va_rf (some nm)]) (rest := []) (c_Taking_isRefusedMeeting l G _ hG hI hN hW hcR hjn hnv) ok_Taking_isRefusedMeeting rfl t7 (by decide) rfl lk_Taking_137 rfl rfl (Nat.zero_le _) (Nat.le_of_ble_eq_true rfl) (Nat.le_of_ble_eq_true rfl) (Nat.zero_le _) (Nat.zero_le _) dX8_judgeWayPart_18 (sp_kI fun v18 m18 hp18 => ?_)
    obtain ⟨hp18, hp18m⟩ := hp18; replace hp18m := (hp18m).symm; subst hp18m
    refine sp_if_eq X (pc := 21) (tgt := 27) dX8_judgeWayPart_21 (by decide) (fun hb21 => ?_) (fun hb21 => ?_)
    · have hnr : ¬ (¬ T.w j = u ∧ sp_hr R 16 = 0) := fun z => hp18.eq hb21 ⟨z.2, z.1⟩
      refine sp_aload_n X (pc := 27) (r := (some (NA j))) dX8_judgeWayPart_27 rfl rfl ?_
      refine sp_getfield X (pc := 28) (c := 5) (i := 4) (t := 2) (a := (NA j)) (v := va_rf (m.fR 324 (NA j))) rfl hnd.1 (by decide) rfl rfl fl_Taking_141 dX8_judgeWayPart_28 ?_
      refine sp_ifnull X (pc := 31) (tgt := 37) dX8_judgeWayPart_31 (by decide) (fun hb31 => ?_) (fun ra31 hb31 => ?_)
      · have hk2 : ¬ T.k j = 2 := fun z => by
          obtain ⟨ta, z1, -⟩ := hnd.2.2.2.2.2.2.2 z
          rw [hb31] at z1
          cases z1
        refine sp_aload_n X (pc := 37) (r := (some (NA j))) dX8_judgeWayPart_37 rfl rfl ?_
        refine sp_getfield X (pc := 38) (c := 5) (i := 3) (t := 2) (a := (NA j)) (v := va_rf (m.fR 323 (NA j))) rfl hnd.1 (by decide) rfl rfl fl_Taking_144 dX8_judgeWayPart_38 ?_
        refine sp_ifnull X (pc := 41) (tgt := 47) dX8_judgeWayPart_41 (by decide) (fun hb41 => ?_) (fun ra41 hb41 => ?_)
        · have hk1 : T.k j = 0 := by
            rcases hjk with z | ⟨z, -⟩ | ⟨z, -⟩
            · exact z
            · rw [hnd.2.2.2.2.2.1, if_pos z] at hb41; cases hb41
            · exact absurd z hk2
          refine sp_aload_n X (pc := 47) (r := some (A 7)) dX8_judgeWayPart_47 rfl rfl ?_
          refine sp_aload_n X (pc := 48) (r := (some (NA j))) dX8_judgeWayPart_48 rfl rfl ?_
          refine sp_putR X (pc := 49) (c := 9) (i := 8) (q := 584) (a := (A 7)) rfl (by first | assumption | omega) (by decide) rfl rfl (Or.inl rfl)  fl_Taking_54 dX8_judgeWayPart_49 ?_
          refine sp_iconst X (pc := 52) (v := 0) dX8_judgeWayPart_52 (by decide) ?_
          refine sp_ireturn X (pc := 53) dX8_judgeWayPart_53 rfl ⟨_, rfl, ?_⟩
          refine ⟨hI.pR (Or.inr (Or.inl rfl)) (fun x hx => by cases hx; rw [if_neg (by decide)]; exact hnd.1) (fun _ => by simp), (sp_F.refl m A sp_Tj).pR (by unfold sp_Tj; decide) (by decide), j, lk, hjs.a hjn, Or.inl ⟨rfl, by omega, fun us r hus h => (pu_wk.cons hus).mpr ⟨some j, Or.inr ⟨hl0, hin⟩, Or.inr ⟨j, rfl, Or.inr ⟨hnr, Or.inr (Or.inr ⟨hk1, h⟩)⟩⟩⟩⟩⟩
        · have hk1 : T.k j = 1 := Classical.byContradiction fun z => by
            rw [hnd.2.2.2.2.2.1, if_neg z] at hb41
            cases hb41
          refine sp_bipush X (pc := 44) (v := (-15)) dX8_judgeWayPart_44 (by decide) ?_
          refine sp_ireturn X (pc := 46) dX8_judgeWayPart_46 rfl ⟨_, rfl, ?_⟩
          exact ⟨hI, sp_F.refl m A sp_Tj, f, lk, hjs, Or.inr ⟨by decide, by omega, fun us r hus hr => (pu_wk.cons hus).mpr ⟨some j, Or.inr ⟨hl0, hin⟩, Or.inr ⟨j, rfl, Or.inr ⟨hnr, Or.inr (Or.inl ⟨hk1, hr⟩)⟩⟩⟩⟩⟩
      · have hk2 : T.k j = 2 := by
          rcases hjk with z | ⟨z, -⟩ | ⟨z, -⟩
          · rw [hnd.2.2.2.2.2.2.1 (by rw [z]; decide)] at hb31; cases hb31
          · rw [hnd.2.2.2.2.2.2.1 (by rw [z]; decide)] at hb31; cases hb31
          · exact z
        refine sp_bipush X (pc := 34) (v := (-14)) dX8_judgeWayPart_34 (by decide) ?_
        refine sp_ireturn X (pc := 36) dX8_judgeWayPart_36 rfl ⟨_, rfl, ?_⟩
        exact ⟨hI, sp_F.refl m A sp_Tj, f, lk, hjs, Or.inr ⟨by decide, by omega, fun us r hus hr => (pu_wk.cons hus).mpr ⟨some j, Or.inr ⟨hl0, hin⟩, Or.inr ⟨j, rfl, Or.inr ⟨hnr, Or.inl ⟨hk2, hr⟩⟩⟩⟩⟩⟩
    · refine sp_bipush X (pc := 24) (v := (-12)) dX8_judgeWayPart_24 (by decide) ?_
      refine sp_ireturn X (pc := 26) dX8_judgeWayPart_26 rfl ⟨_, rfl, ?_⟩
      exact ⟨hI, sp_F.refl m A sp_Tj, f, lk, hjs, Or.inr ⟨by decide, by omega, fun us r hus hr => (pu_wk.cons hus).mpr ⟨some j, Or.inr ⟨hl0, hin⟩, Or.inr ⟨j, rfl, Or.inl ⟨(hp18.ne hb21).2, (hp18.ne hb21).1, hr⟩⟩⟩⟩⟩
  · have hon : o = none := by
      cases o with
      | none => rfl
      | some j => rw [hv2] at hb7; cases hb7
    subst hon
    refine sp_aload_n X (pc := 10) (r := some (A 7)) dX8_judgeWayPart_10 rfl rfl ?_
    refine sp_callV X (pc := 11) (mc := 0) (ms := 0) (b := (A 7)) (c := 9) (r := some (A 7)) (As := []) (rest := []) (c_Taking_judgeLack l G _ hG hI hN hW hcR hjs hlk) ok_Taking_judgeLack rfl t7 (by decide) rfl lk_Taking_134 rfl rfl (Nat.zero_le _) (Nat.le_of_ble_eq_true rfl) (Nat.le_of_ble_eq_true rfl) (Nat.zero_le _) (Nat.zero_le _) dX8_judgeWayPart_11 (sp_kI fun v11 m11 hp11 => ?_)
    refine sp_ireturn X (pc := 14) dX8_judgeWayPart_14 rfl ⟨_, rfl, ?_⟩
    obtain ⟨k1, k2, lk', k3, k4⟩ := hp11
    refine ⟨k1, k2, f, lk', k3, ?_⟩
    rcases k4 with ⟨q1, q2, q3⟩ | ⟨q1, q2, q3, q4, q5⟩ | ⟨q1, q2, q3, q4⟩
    · exact Or.inr ⟨by rw [q1]; decide, by omega, fun us r hus hr => (pu_wk.cons hus).mpr ⟨none, ho, Or.inl ⟨rfl, Or.inl ⟨fun z => z q2, hr.trans q1⟩⟩⟩⟩
    · exact Or.inr ⟨by rw [q1]; decide, by omega, fun us r hus hr => (pu_wk.cons hus).mpr ⟨none, ho, Or.inl ⟨rfl, Or.inr (Or.inl ⟨q2, q3, q4, hr.trans q1⟩)⟩⟩⟩
    · exact Or.inl ⟨q1, by omega, fun us r hus h => (pu_wk.cons hus).mpr ⟨none, ho, Or.inl ⟨rfl, Or.inr (Or.inr ⟨q2, q3, by rw [← q4]; exact h⟩)⟩⟩⟩
set_option maxRecDepth 20000 in
theorem c_Taking_judgeWay (l : Launch) (G : sp_G) (m : sp_M) {P : Nat → Prop} {A : Nat → Nat} (hG : sp_GS G) (hI : sp_I G P A m) {R : Int32} {TT : Nat → List Int32} {n nb0 nt0 : Nat} {T : pu_N} {NA BA : Nat → Nat} (hN : sp_cN G m A R TT n T NA BA) (hW : pu_W n nb0 nt0 T) (hcR : sp_cR m A R) {p num L edp sp : Nat} {us : List (List Int32)} (hp : sp_pt G m p L edp sp) (hpv : sp_pv G m p num us) (hs1 : 1 ≤ us.length) (hs8 : us.length ≤ 8) (hjs : sp_js m A NA BA n 1 0 none none none 0) : sp_C l G M_Taking_judgeWay 0 0 [.ref (A 7), .ref p] m (sp_oI fun v m' => sp_I G P A m' ∧ sp_F m m' A sp_Tj ∧ ∃ f' lk', sp_js m' A NA BA n f' lk' none none none 0 ∧ lk' ≤ 8 ∧ ((v = 0 ∧ lk' ≤ 7 ∧ ∀ r, pu_wk R n T (¬ sp_hr R 32 = 0) f' lk' [us.getD (us.length - 1) []] r → pu_wk R n T (¬ sp_hr R 32 = 0) 1 0 us r) ∨ (¬ v = 0 ∧ ∀ r, r.1 = v → pu_wk R n T (¬ sp_hr R 32 = 0) 1 0 us r))) := by
  refine sp_enter (lv0 := [(0, false, va_rf (some (A 7))), (1, false, va_rf (some p))]) "SafePaths$Taking" false rfl (by decide) (fun h => by cases h) (Nat.le_of_ble_eq_true rfl) rfl ?_
  intro w X
  have hsu := (hpv.pt hp).1
  refine sp_iconst X (pc := 0) (v := 0) dX8_judgeWay_0 (by decide) ?_
  refine sp_istore_n X (pc := 1) (lv' := [(2, false, .int 0), (0, false, va_rf (some (A 7))), (1, false, va_rf (some p))]) dX8_judgeWay_1 rfl (by decide) rfl ?_
  have loop2 : ∀ (dz : Nat) (mm : sp_M) (i f lk : Nat), sp_I G P A mm → sp_F m mm A sp_Tj → sp_pt G mm p L edp sp → sp_js mm A NA BA n f lk none none none 0 → lk ≤ i → i + 1 ≤ sp → (∀ r, pu_wk R n T (¬ sp_hr R 32 = 0) f lk (us.drop i) r → pu_wk R n T (¬ sp_hr R 32 = 0) 1 0 us r) → sp - i = dz → w 0 0 mm 2 [(0, false, va_rf (some (A 7))), (1, false, va_rf (some p)), (2, false, .int (nI i))] [] := by
    intro dz
    induction dz using Nat.strongRecOn with
    | ind dz ih =>
      intro mm i f lk I9 F9 hp9 js9 hli hi0 wk9 hdz
      have hS9 := I9.S
      have t7 := hS9.k 7 10 (by decide)
      refine sp_iload_n X (pc := 2) (x := nI i) dX8_judgeWay_2 rfl rfl ?_
      refine sp_iconst X (pc := 3) (v := 1) dX8_judgeWay_3 (by decide) ?_
      refine sp_iadd X (pc := 4) dX8_judgeWay_4 ?_
      rw [show ((nI i) + 1) = nI (i + 1) from nI_1 i]
      refine sp_aload_n X (pc := 5) (r := some p) dX8_judgeWay_5 rfl rfl ?_
      refine sp_callV X (pc := 6) (mc := 0) (ms := 0) (b := p) (c := 7) (r := some p) (As := []) (rest := [.int (nI (i + 1))]) (c_Parted_count l G _ hp9) ok_Parted_count rfl hp9.1 (by decide) rfl lk_Taking_107 rfl rfl (by simp [sp_cat_rf, sp_cat_i, sp_cat_l]) (Nat.le_of_ble_eq_true rfl) (Nat.le_of_ble_eq_true rfl) (Nat.zero_le _) (Nat.zero_le _) dX8_judgeWay_6 (sp_kI fun v6 m6 hp6 => ?_)
      obtain ⟨hp6v, hp6⟩ := hp6; replace hp6 := (hp6).symm; subst hp6; replace hp6v := (hp6v).symm; subst hp6v
      refine sp_icmp_ge X (pc := 9) (tgt := 34) dX8_judgeWay_9 (by decide) (fun hb9 => ?_) (fun hb9 => ?_)
      · have hi9 : sp ≤ i + 1 := sp_nge hb9 (by omega) (by omega)
        refine sp_iconst X (pc := 34) (v := 0) dX8_judgeWay_34 (by decide) ?_
        refine sp_ireturn X (pc := 35) dX8_judgeWay_35 rfl ⟨_, rfl, ?_⟩
        refine ⟨I9, F9, f, lk, js9, by omega, Or.inl ⟨rfl, by omega, fun r hr => wk9 r ?_⟩⟩
        have e9 : i = us.length - 1 := by omega
        rw [sp_drop (us := us) (d := i) (by omega), List.drop_eq_nil_of_le (by omega), e9]
        exact hr
      · have hi9 : i + 1 < sp := sp_nlt hb9 (by omega)
        have hdr := sp_drop (us := us) (d := i) (by omega)
        have hnil : us.drop (i + 1) ≠ [] := fun z => by
          have := congrArg List.length z
          rw [List.length_drop] at this
          simp at this
          omega
        refine sp_aload_n X (pc := 12) (r := some (A 7)) dX8_judgeWay_12 rfl rfl ?_
        refine sp_aload_n X (pc := 13) (r := some p) dX8_judgeWay_13 rfl rfl ?_
        refine sp_iload_n X (pc := 14) (x := nI i) dX8_judgeWay_14 rfl rfl ?_
        refine sp_callV X (pc := 15) (mc := 0) (ms := 0) (b := p) (c := 7) (r := some p) (As := [.int (nI i)]) (rest := [va_rf (some (A 7))]) (c_Parted_at l G _ hp9) ok_Parted_at rfl hp9.1 (by decide) rfl lk_Taking_112 rfl rfl (by simp [sp_cat_rf, sp_cat_i, sp_cat_l]) (Nat.le_of_ble_eq_true rfl) (Nat.le_of_ble_eq_true rfl) (Nat.zero_le _) (Nat.zero_le _) dX8_judgeWay_15 (sp_kR fun v15 m15 hp15 => ?_)
        obtain ⟨hp15, hp15m⟩ := hp15; replace hp15m := (hp15m).symm; subst hp15m
        obtain ⟨nm, rfl, hnmt, hk15, -⟩ := hp15
        have hnv15 : sp_nv mm nm (us.getD i []) := by
          obtain ⟨nm', z1, z2⟩ := ((hpv.F hI F9).pt hp9).2.1 i (by omega)
          rw [hk15 i (by omega) rfl] at z1
          cases z1
          exact z2
        have N9 := hN.F hI F9 sp_Tj.n9 sp_Tj.n6 sp_Tj.n7
        refine sp_callV X (pc := 18) (mc := 0) (ms := 0) (b := (A 7)) (c := 9) (r := some (A 7)) (As := [va_rf (some nm)]) (rest := []) (c_Taking_judgeWayPart l G _ hG I9 N9 hW (hcR.F hI F9) js9 (by omega) hnv15) ok_Taking_judgeWayPart rfl t7 (by decide) rfl lk_Taking_127 rfl rfl (Nat.zero_le _) (Nat.le_of_ble_eq_true rfl) (Nat.le_of_ble_eq_true rfl) (Nat.zero_le _) (Nat.zero_le _) dX8_judgeWay_18 (sp_kI fun v18 m18 hp18 => ?_)
        obtain ⟨k1, k2, f', lk', k3, k4⟩ := hp18
        refine sp_istore_n X (pc := 21) (lv' := [(3, false, .int v18), (0, false, va_rf (some (A 7))), (1, false, va_rf (some p)), (2, false, .int (nI i))]) dX8_judgeWay_21 rfl (by decide) rfl ?_
        refine sp_iload_n X (pc := 22) (x := v18) dX8_judgeWay_22 rfl rfl ?_
        refine sp_if_eq X (pc := 23) (tgt := 28) dX8_judgeWay_23 (by decide) (fun hb23 => ?_) (fun hb23 => ?_)
        · refine sp_iinc X (pc := 28) (v := nI (i + 1)) (lv' := [(2, false, .int (nI (i + 1))), (3, false, .int v18), (0, false, va_rf (some (A 7))), (1, false, va_rf (some p))]) dX8_judgeWay_28 rfl (nI_1 i) (by decide) rfl ?_
          refine sp_goto X (pc := 31) (tgt := 2) dX8_judgeWay_31 (by decide) ?_
          refine sp_pick X [2, 3, 0] (lv' := [(0, false, va_rf (some (A 7))), (1, false, va_rf (some p)), (2, false, .int (nI (i + 1)))]) rfl ?_
          rcases k4 with ⟨z1, z2, z3⟩ | ⟨z, -⟩
          · exact ih (sp - (i + 1)) (by omega) m18 (i + 1) f' lk' k1 (F9.tr k2) ((F9.tr k2).pt hI k1 hp) k3 (by omega) (by omega) (fun r hr => wk9 r (by rw [hdr]; exact z3 _ r hnil hr)) rfl
          · exact absurd hb23 z
        · refine sp_iload_n X (pc := 26) (x := v18) dX8_judgeWay_26 rfl rfl ?_
          refine sp_ireturn X (pc := 27) dX8_judgeWay_27 rfl ⟨_, rfl, ?_⟩
          rcases k4 with ⟨z, -⟩ | ⟨z1, z2, z3⟩
          · exact absurd z hb23
          · exact ⟨k1, F9.tr k2, f', lk', k3, by omega, Or.inr ⟨z1, fun r hr => wk9 r (by rw [hdr]; exact z3 _ r hnil hr)⟩⟩
  refine sp_pick X [1, 2, 0] (lv' := [(0, false, va_rf (some (A 7))), (1, false, va_rf (some p)), (2, false, .int 0)]) rfl ?_
  exact loop2 _ m 0 1 0 hI (sp_F.refl m A sp_Tj) hp hjs (Nat.le_refl _) (by omega) (fun r z => z) rfl
set_option maxRecDepth 20000 in
theorem c_Taking_judgeLast (l : Launch) (G : sp_G) (m : sp_M) {P : Nat → Prop} {A : Nat → Nat} (hG : sp_GS G) (hI : sp_I G P A m) {R : Int32} {TT : Nat → List Int32} {n nb0 nt0 : Nat} {T : pu_N} {NA BA : Nat → Nat} (hN : sp_cN G m A R TT n T NA BA) (hW : pu_W n nb0 nt0 T) (hcR : sp_cR m A R) {f lk : Nat} (hjs : sp_js m A NA BA n f lk none none none 0) (hlk : lk ≤ 100) {nm : Nat} {u : List Int32} (hnv : sp_nv m nm u) : sp_C l G M_Taking_judgeLast 0 0 [.ref (A 7), .ref nm] m (sp_oI fun v m' => sp_I G P A m' ∧ sp_F m m' A sp_Tj ∧ ∃ th', sp_js m' A NA BA n f lk th' none none 0 ∧ (∀ j, th' = some j → j < n) ∧ ((v = 0 ∧ pu_wk R n T (¬ sp_hr R 32 = 0) f lk [u] (0, f, lk, th')) ∨ (v = -12 ∧ ∀ r, r.1 = -12 → pu_wk R n T (¬ sp_hr R 32 = 0) f lk [u] r))) := by
  refine sp_enter (lv0 := [(0, false, va_rf (some (A 7))), (1, false, va_rf (some nm))]) "SafePaths$Taking" false rfl (by decide) (fun h => by cases h) (Nat.le_of_ble_eq_true rfl) rfl ?_
  intro w X
  have hS := hI.S
  have t0 := hS.k 0 9 (by decide)
  have t7 := hS.k 7 10 (by decide)
  refine sp_aload_n X (pc := 0) (r := some (A 7)) dX8_judgeLast_0 rfl rfl ?_
  refine sp_aload_n X (pc := 1) (r := some (A 7)) dX8_judgeLast_1 rfl rfl ?_
  refine sp_aload_n X (pc := 2) (r := some nm) dX8_judgeLast_2 rfl rfl ?_
  refine sp_callV X (pc := 3) (mc := 0) (ms := 0) (b := (A 7)) (c := 9) (r := some (A 7)) (As := [va_rf (some nm)]) (rest := [va_rf (some (A 7))]) (c_Taking_nextBy l G _ hG hI hN hW hcR hjs hlk hnv) ok_Taking_nextBy rfl t7 (by decide) rfl lk_Taking_130 rfl rfl (by simp [sp_cat_rf, sp_cat_i, sp_cat_l]) (Nat.le_of_ble_eq_true rfl) (Nat.le_of_ble_eq_true rfl) (Nat.zero_le _) (Nat.zero_le _) dX8_judgeLast_3 (sp_kR fun v3 m3 hp3 => ?_)
  obtain ⟨hp3, hp3m⟩ := hp3; replace hp3m := (hp3m).symm; subst hp3m
  obtain ⟨o, ho, hv3⟩ := hp3
  have hon : ∀ j, o = some j → j < n := fun j z => by
    subst z
    rcases ho with ⟨-, z⟩ | ⟨-, z⟩
    · cases z
    · exact z.lt.1
  subst hv3
  refine sp_putR X (pc := 6) (c := 9) (i := 10) (q := 586) (a := (A 7)) rfl (by first | assumption | omega) (by decide) rfl rfl (Or.inl rfl)  fl_Taking_60 dX8_judgeLast_6 ?_
  have hI1 : sp_I G P A (m.pR 586 (A 7) (o.map NA)) := hI.pR (by decide) (fun x hx => by
    rw [if_neg (by decide)]
    cases o with
    | none => cases hx
    | some j => cases hx; exact (hN.2.2 j (hon j rfl)).1) (fun z => by omega)
  have hF1 : sp_F m (m.pR 586 (A 7) (o.map NA)) A sp_Tj := (sp_F.refl m A sp_Tj).pR (by unfold sp_Tj; decide) (by decide)
  have hN1 := hN.F hI hF1 sp_Tj.n9 sp_Tj.n6 sp_Tj.n7
  have hc1 := hcR.F hI hF1
  have hnv1 := hnv.F hI.wf hF1
  have hjs1 := hjs.c o
  refine sp_aload_n X (pc := 9) (r := some (A 7)) dX8_judgeLast_9 rfl rfl ?_
  refine sp_getfield X (pc := 10) (c := 9) (i := 10) (t := 2) (a := (A 7)) (v := va_rf (o.map NA)) rfl (by first | assumption | omega) (by decide) rfl (by simp [sp_fv, sp_pI_nx, sp_pI_ty, sp_pI_ln, sp_pI_fI, sp_pI_fL, sp_pI_fR, sp_pI_aI, sp_pI_aL, sp_pI_aR, sp_pL_nx, sp_pL_ty, sp_pL_ln, sp_pL_fI, sp_pL_fL, sp_pL_fR, sp_pL_aI, sp_pL_aL, sp_pL_aR, sp_pR_nx, sp_pR_ty, sp_pR_ln, sp_pR_fI, sp_pR_fL, sp_pR_fR, sp_pR_aI, sp_pR_aL, sp_pR_aR, sp_sI_nx, sp_sI_ty, sp_sI_ln, sp_sI_fI, sp_sI_fL, sp_sI_fR, sp_sI_aI, sp_sI_aL, sp_sI_aR, sp_sL_nx, sp_sL_ty, sp_sL_ln, sp_sL_fI, sp_sL_fL, sp_sL_fR, sp_sL_aI, sp_sL_aL, sp_sL_aR, sp_sR_nx, sp_sR_ty, sp_sR_ln, sp_sR_fI, sp_sR_fL, sp_sR_fR, sp_sR_aI, sp_sR_aL, sp_sR_aR, sp_newO_nx, sp_newA_nx, sp_newO_ty, sp_newA_ty, sp_newO_ln, sp_newA_ln, sp_newO_fI, sp_newA_fI, sp_newO_fL, sp_newA_fL, sp_newO_fR, sp_newA_fR, sp_newO_aI, sp_newA_aI, sp_newO_aL, sp_newA_aL, sp_newO_aR, sp_newA_aR]) fl_Taking_60 dX8_judgeLast_10 ?_
  refine sp_ifnull X (pc := 13) (tgt := 33) dX8_judgeLast_13 (by decide) (fun hb13 => ?_) (fun ra13 hb13 => ?_)
  · have hno : o = none := by
      cases o with
      | none => rfl
      | some j => cases hb13
    refine sp_iconst X (pc := 33) (v := 0) dX8_judgeLast_33 (by decide) ?_
    refine sp_ireturn X (pc := 34) dX8_judgeLast_34 rfl ⟨_, rfl, ?_⟩
    first
      | exact ⟨hI1, hF1, o, hjs1, hon, Or.inl ⟨rfl, o, ho, Or.inr ⟨fun ⟨j, z1, z2⟩ => (by rw [hno] at z1; cases z1), rfl⟩⟩⟩
      | exact ⟨hI1, hF1, o, hjs1, hon, Or.inl ⟨rfl, o, ho, Or.inr ⟨fun ⟨j', z1, z2, z3⟩ => by rw [hj] at z1; cases z1; exact hp22.eq hb25 ⟨z3, z2⟩, rfl⟩⟩⟩
      | exact ⟨hI1, hF1, o, hjs1, hon, Or.inr ⟨rfl, fun r hr => ⟨o, ho, Or.inl ⟨⟨j, hj, (hp22.ne hb25).2, (hp22.ne hb25).1⟩, hr⟩⟩⟩⟩
  · obtain ⟨j, hj⟩ : ∃ j, o = some j := by
      cases o with
      | none => cases hb13
      | some j => exact ⟨j, rfl⟩
    have hra : ra13 = NA j := by rw [hj] at hb13; exact (Option.some.inj hb13).symm
    subst hra
    have hjn := hon j hj
    refine sp_aload_n X (pc := 16) (r := some (A 7)) dX8_judgeLast_16 rfl rfl ?_
    refine sp_aload_n X (pc := 17) (r := some (A 7)) dX8_judgeLast_17 rfl rfl ?_
    refine sp_getfield X (pc := 18) (c := 9) (i := 10) (t := 2) (a := (A 7)) (v := va_rf (some (NA j))) rfl (by first | assumption | omega) (by decide) rfl (Eq.trans (by simp [sp_fv, sp_pI_nx, sp_pI_ty, sp_pI_ln, sp_pI_fI, sp_pI_fL, sp_pI_fR, sp_pI_aI, sp_pI_aL, sp_pI_aR, sp_pL_nx, sp_pL_ty, sp_pL_ln, sp_pL_fI, sp_pL_fL, sp_pL_fR, sp_pL_aI, sp_pL_aL, sp_pL_aR, sp_pR_nx, sp_pR_ty, sp_pR_ln, sp_pR_fI, sp_pR_fL, sp_pR_fR, sp_pR_aI, sp_pR_aL, sp_pR_aR, sp_sI_nx, sp_sI_ty, sp_sI_ln, sp_sI_fI, sp_sI_fL, sp_sI_fR, sp_sI_aI, sp_sI_aL, sp_sI_aR, sp_sL_nx, sp_sL_ty, sp_sL_ln, sp_sL_fI, sp_sL_fL, sp_sL_fR, sp_sL_aI, sp_sL_aL, sp_sL_aR, sp_sR_nx, sp_sR_ty, sp_sR_ln, sp_sR_fI, sp_sR_fL, sp_sR_fR, sp_sR_aI, sp_sR_aL, sp_sR_aR, sp_newO_nx, sp_newA_nx, sp_newO_ty, sp_newA_ty, sp_newO_ln, sp_newA_ln, sp_newO_fI, sp_newA_fI, sp_newO_fL, sp_newA_fL, sp_newO_fR, sp_newA_fR, sp_newO_aI, sp_newA_aI, sp_newO_aL, sp_newA_aL, sp_newO_aR, sp_newA_aR]) (congrArg va_rf hb13)) fl_Taking_60 dX8_judgeLast_18 ?_
    refine sp_aload_n X (pc := 21) (r := some nm) dX8_judgeLast_21 rfl rfl ?_
    refine sp_callV X (pc := 22) (mc := 0) (ms := 0) (b := (A 7)) (c := 9) (r := some (A 7)) (As := [va_rf (some (NA j)), va_rf (some nm)]) (rest := []) (c_Taking_isRefusedMeeting l G _ hG hI1 hN1 hW hc1 hjn hnv1) ok_Taking_isRefusedMeeting rfl t7 (by decide) rfl lk_Taking_137 rfl rfl (Nat.zero_le _) (Nat.le_of_ble_eq_true rfl) (Nat.le_of_ble_eq_true rfl) (Nat.zero_le _) (Nat.zero_le _) dX8_judgeLast_22 (sp_kI fun v22 m22 hp22 => ?_)
    obtain ⟨hp22, hp22m⟩ := hp22; replace hp22m := (hp22m).symm; subst hp22m
    refine sp_if_eq X (pc := 25) (tgt := 33) dX8_judgeLast_25 (by decide) (fun hb25 => ?_) (fun hb25 => ?_)
    · refine sp_iconst X (pc := 33) (v := 0) dX8_judgeLast_33 (by decide) ?_
      refine sp_ireturn X (pc := 34) dX8_judgeLast_34 rfl ⟨_, rfl, ?_⟩
      first
        | exact ⟨hI1, hF1, o, hjs1, hon, Or.inl ⟨rfl, o, ho, Or.inr ⟨fun ⟨j, z1, z2⟩ => (by rw [hno] at z1; cases z1), rfl⟩⟩⟩
        | exact ⟨hI1, hF1, o, hjs1, hon, Or.inl ⟨rfl, o, ho, Or.inr ⟨fun ⟨j', z1, z2, z3⟩ => by rw [hj] at z1; cases z1; exact hp22.eq hb25 ⟨z3, z2⟩, rfl⟩⟩⟩
        | exact ⟨hI1, hF1, o, hjs1, hon, Or.inr ⟨rfl, fun r hr => ⟨o, ho, Or.inl ⟨⟨j, hj, (hp22.ne hb25).2, (hp22.ne hb25).1⟩, hr⟩⟩⟩⟩
    · refine sp_bipush X (pc := 28) (v := (-12)) dX8_judgeLast_28 (by decide) ?_
      refine sp_goto X (pc := 30) (tgt := 34) dX8_judgeLast_30 (by decide) ?_
      refine sp_ireturn X (pc := 34) dX8_judgeLast_34 rfl ⟨_, rfl, ?_⟩
      first
        | exact ⟨hI1, hF1, o, hjs1, hon, Or.inl ⟨rfl, o, ho, Or.inr ⟨fun ⟨j, z1, z2⟩ => (by rw [hno] at z1; cases z1), rfl⟩⟩⟩
        | exact ⟨hI1, hF1, o, hjs1, hon, Or.inl ⟨rfl, o, ho, Or.inr ⟨fun ⟨j', z1, z2, z3⟩ => by rw [hj] at z1; cases z1; exact hp22.eq hb25 ⟨z3, z2⟩, rfl⟩⟩⟩
        | exact ⟨hI1, hF1, o, hjs1, hon, Or.inr ⟨rfl, fun r hr => ⟨o, ho, Or.inl ⟨⟨j, hj, (hp22.ne hb25).2, (hp22.ne hb25).1⟩, hr⟩⟩⟩⟩
set_option maxRecDepth 20000 in
theorem c_Taking_isPlaceTaken (l : Launch) (G : sp_G) (m : sp_M) {P : Nat → Prop} {A : Nat → Nat} (hG : sp_GS G) (hI : sp_I G P A m) {R : Int32} {TT : Nat → List Int32} {n nb0 nt0 : Nat} {T : pu_N} {NA BA : Nat → Nat} (hN : sp_cN G m A R TT n T NA BA) (hW : pu_W n nb0 nt0 T) {f lk : Nat} {th al sh : Option Nat} {dd : Int32} (hjs : sp_js m A NA BA n f lk th al sh dd) (hlk : lk ≤ 100) (hth : ∀ j, th = some j → j < n) {kd : Int32} : sp_C l G M_Taking_isPlaceTaken 0 0 [.ref (A 7), .int kd] m (sp_oI fun v m' => sp_bo v (∃ j, th = some j ∧ (kd = 0 ∨ T.k j = 0)) ∧ m' = m) := by
  refine sp_enter (lv0 := [(0, false, va_rf (some (A 7))), (1, false, .int kd)]) "SafePaths$Taking" false rfl (by decide) (fun h => by cases h) (Nat.le_of_ble_eq_true rfl) rfl ?_
  intro w X
  have hS := hI.S
  have t7 := hS.k 7 10 (by decide)
  have h6 := hjs.2.2.1
  refine sp_aload_n X (pc := 0) (r := some (A 7)) dX8_isPlaceTaken_0 rfl rfl ?_
  refine sp_getfield X (pc := 1) (c := 9) (i := 10) (t := 2) (a := (A 7)) (v := va_rf (m.fR 586 (A 7))) rfl (by first | assumption | omega) (by decide) rfl rfl fl_Taking_60 dX8_isPlaceTaken_1 ?_
  refine sp_ifnull X (pc := 4) (tgt := 25) dX8_isPlaceTaken_4 (by decide) (fun hb4 => ?_) (fun ra4 hb4 => ?_)
  · have hno : ¬ ∃ j, th = some j ∧ (kd = 0 ∨ T.k j = 0) := fun ⟨j, z, _⟩ => by
      rw [h6, z] at hb4
      cases hb4
    refine sp_iconst X (pc := 25) (v := 0) dX8_isPlaceTaken_25 (by decide) ?_
    refine sp_ireturn X (pc := 26) dX8_isPlaceTaken_26 rfl ⟨_, rfl, ?_⟩
    first
      | exact ⟨sp_bo.t ⟨j, hj, Or.inl hb8⟩, rfl⟩
      | exact ⟨sp_bo.t ⟨j, hj, Or.inr hk0⟩, rfl⟩
      | exact ⟨sp_bo.f hno, rfl⟩
      | exact ⟨sp_bo.f (fun ⟨i, z1, z2⟩ => by rw [hj] at z1; cases z1; exact z2.elim hb8 hk0), rfl⟩
  · obtain ⟨j, hj⟩ : ∃ j, th = some j := by
      cases th with
      | none => rw [h6] at hb4; cases hb4
      | some j => exact ⟨j, rfl⟩
    have hra : ra4 = NA j := by rw [h6, hj] at hb4; exact (Option.some.inj hb4).symm
    subst hra
    have hjn := hth j hj
    have hnt := (hN.2.2 j hjn).1
    have hfd := (hN.2.2 j hjn).fld hW hjn
    refine sp_iload_n X (pc := 7) (x := kd) dX8_isPlaceTaken_7 rfl rfl ?_
    refine sp_if_eq X (pc := 8) (tgt := 21) dX8_isPlaceTaken_8 (by decide) (fun hb8 => ?_) (fun hb8 => ?_)
    · refine sp_iconst X (pc := 21) (v := 1) dX8_isPlaceTaken_21 (by decide) ?_
      refine sp_goto X (pc := 22) (tgt := 26) dX8_isPlaceTaken_22 (by decide) ?_
      refine sp_ireturn X (pc := 26) dX8_isPlaceTaken_26 rfl ⟨_, rfl, ?_⟩
      first
        | exact ⟨sp_bo.t ⟨j, hj, Or.inl hb8⟩, rfl⟩
        | exact ⟨sp_bo.t ⟨j, hj, Or.inr hk0⟩, rfl⟩
        | exact ⟨sp_bo.f hno, rfl⟩
        | exact ⟨sp_bo.f (fun ⟨i, z1, z2⟩ => by rw [hj] at z1; cases z1; exact z2.elim hb8 hk0), rfl⟩
    · refine sp_aload_n X (pc := 11) (r := some (A 7)) dX8_isPlaceTaken_11 rfl rfl ?_
      refine sp_getfield X (pc := 12) (c := 9) (i := 10) (t := 2) (a := (A 7)) (v := va_rf (some (NA j))) rfl (by first | assumption | omega) (by decide) rfl (congrArg va_rf hb4) fl_Taking_60 dX8_isPlaceTaken_12 ?_
      refine sp_callV X (pc := 15) (mc := 0) (ms := 0) (b := (NA j)) (c := 5) (r := (some (NA j))) (As := []) (rest := []) (c_Node_isFolder l G _ hnt) ok_Node_isFolder rfl hnt (by decide) rfl lk_Taking_176 rfl rfl (Nat.zero_le _) (Nat.le_of_ble_eq_true rfl) (Nat.le_of_ble_eq_true rfl) (Nat.zero_le _) (Nat.zero_le _) dX8_isPlaceTaken_15 (sp_kI fun v15 m15 hp15 => ?_)
      obtain ⟨hp15v, hp15⟩ := hp15; replace hp15 := (hp15).symm; subst hp15; replace hp15v := (hp15v).symm; subst hp15v
      refine sp_if_eq X (pc := 18) (tgt := 25) dX8_isPlaceTaken_18 (by decide) (fun hb18 => ?_) (fun hb18 => ?_)
      · have hk0 : ¬ T.k j = 0 := fun z => by
          rw [if_pos (hfd.mpr z)] at hb18
          exact absurd hb18 (by decide)
        refine sp_iconst X (pc := 25) (v := 0) dX8_isPlaceTaken_25 (by decide) ?_
        refine sp_ireturn X (pc := 26) dX8_isPlaceTaken_26 rfl ⟨_, rfl, ?_⟩
        first
          | exact ⟨sp_bo.t ⟨j, hj, Or.inl hb8⟩, rfl⟩
          | exact ⟨sp_bo.t ⟨j, hj, Or.inr hk0⟩, rfl⟩
          | exact ⟨sp_bo.f hno, rfl⟩
          | exact ⟨sp_bo.f (fun ⟨i, z1, z2⟩ => by rw [hj] at z1; cases z1; exact z2.elim hb8 hk0), rfl⟩
      · have hk0 : T.k j = 0 := hfd.mp (Classical.byContradiction fun z => hb18 (if_neg z))
        refine sp_iconst X (pc := 21) (v := 1) dX8_isPlaceTaken_21 (by decide) ?_
        refine sp_goto X (pc := 22) (tgt := 26) dX8_isPlaceTaken_22 (by decide) ?_
        refine sp_ireturn X (pc := 26) dX8_isPlaceTaken_26 rfl ⟨_, rfl, ?_⟩
        first
          | exact ⟨sp_bo.t ⟨j, hj, Or.inl hb8⟩, rfl⟩
          | exact ⟨sp_bo.t ⟨j, hj, Or.inr hk0⟩, rfl⟩
          | exact ⟨sp_bo.f hno, rfl⟩
          | exact ⟨sp_bo.f (fun ⟨i, z1, z2⟩ => by rw [hj] at z1; cases z1; exact z2.elim hb8 hk0), rfl⟩
set_option maxRecDepth 20000 in
theorem c_Taking_judgeSharing (l : Launch) (G : sp_G) (m : sp_M) {P : Nat → Prop} {A : Nat → Nat} (hG : sp_GS G) (hI : sp_I G P A m) {R : Int32} {TT : Nat → List Int32} {n nb0 nt0 : Nat} {T : pu_N} {NA BA : Nat → Nat} (hN : sp_cN G m A R TT n T NA BA) (hW : pu_W n nb0 nt0 T) (hcR : sp_cR m A R) {f lk : Nat} {th : Option Nat} (hjs : sp_js m A NA BA n f lk th none none 0) (hth : ∀ j, th = some j → j < n) {p num L edp sp : Nat} {ou : List (List Int32)} (hp : sp_pt G m p L edp sp) (hpv : sp_pv G m p num ou) (hBT : ∀ q, q < nb0 → m.ty (BA q) = 2) : sp_C l G M_Taking_judgeSharing 0 0 [.ref (A 7), .ref p] m (sp_oI fun v m' => sp_I G P A m' ∧ sp_F m m' A sp_Tj ∧ ∃ al' sh', sp_js m' A NA BA n f lk th al' sh' 0 ∧ (∀ j, al' = some j → j < n) ∧ (∀ q, sh' = some q → q < nb0) ∧ ∃ o, pu_rc R n T (sp_hr R 16 = 0) 1 ou o ∧ ((¬ (∃ j, o = some j ∧ T.k j = 1) ∧ v = -19) ∨ ∃ j, o = some j ∧ T.k j = 1 ∧ v = 0 ∧ sh' = some (T.h j) ∧ ((th = some j ∧ al' = some j) ∨ (¬ th = some j ∧ al' = none)))) := by
  refine sp_enter (lv0 := [(0, false, va_rf (some (A 7))), (1, false, va_rf (some p))]) "SafePaths$Taking" false rfl (by decide) (fun h => by cases h) (Nat.le_of_ble_eq_true rfl) rfl ?_
  intro w X
  have hS := hI.S
  have t0 := hS.k 0 9 (by decide)
  have t5 := hS.k 5 11 (by decide)
  have t7 := hS.k 7 10 (by decide)
  have hn200 := hW.1.2
  have cut20 : ∀ (fl : Int32), (¬ fl = 0 ↔ sp_hr R 16 = 0) → w 0 0 m 20 [(0, false, va_rf (some (A 7))), (1, false, va_rf (some p))] [.int fl, va_rf (some p), va_rf (some (A 5))] := by
    intro fl hfl
    refine sp_callV X (pc := 20) (mc := 0) (ms := 0) (b := (A 5)) (c := 10) (r := some (A 5)) (As := [va_rf (some p), .int fl]) (rest := []) (c_Tree_reach l G _ hI.J hI.tr hN hW hcR.2.1 hp hpv) ok_Tree_reach rfl t5 (by decide) rfl lk_Taking_198 rfl rfl (Nat.zero_le _) (Nat.le_of_ble_eq_true rfl) (Nat.le_of_ble_eq_true rfl) (Nat.zero_le _) (Nat.zero_le _) dX8_judgeSharing_20 (sp_kR fun v20 m20 hp20 => ?_)
    obtain ⟨hp20, hp20m⟩ := hp20; replace hp20m := (hp20m).symm; subst hp20m
    obtain ⟨o, ho, hon, hv20⟩ := hp20
    rw [propext hfl] at ho
    refine sp_astore_n X (pc := 23) (lv' := [(2, false, va_rf v20), (0, false, va_rf (some (A 7))), (1, false, va_rf (some p))]) dX8_judgeSharing_23 rfl (by decide) rfl ?_
    refine sp_aload_n X (pc := 24) (r := v20) dX8_judgeSharing_24 rfl rfl ?_
    refine sp_ifnull X (pc := 25) (tgt := 35) dX8_judgeSharing_25 (by decide) (fun hb25 => ?_) (fun ra25 hb25 => ?_)
    · have hno : ¬ ∃ j, o = some j ∧ T.k j = 1 := fun ⟨j, z, _⟩ => by
        rw [hv20, z] at hb25
        cases hb25
      refine sp_bipush X (pc := 35) (v := (-19)) dX8_judgeSharing_35 (by decide) ?_
      refine sp_ireturn X (pc := 37) dX8_judgeSharing_37 rfl ⟨_, rfl, ?_⟩
      exact ⟨hI, sp_F.refl m A sp_Tj, none, none, hjs, fun j z => (by cases z), fun j z => (by cases z), _, ho, Or.inl ⟨hno, rfl⟩⟩
    · obtain ⟨j, hj⟩ : ∃ j, o = some j := by
        cases o with
        | none => rw [hv20] at hb25; cases hb25
        | some j => exact ⟨j, rfl⟩
      subst hj
      have hra : ra25 = NA j := by rw [hv20] at hb25; exact (Option.some.inj hb25).symm
      subst hra
      subst hb25
      have hjn := hon j rfl
      have hnd := hN.2.2 j hjn
      have hnt := hnd.1
      refine sp_aload_n X (pc := 28) (r := (some (NA j))) dX8_judgeSharing_28 rfl rfl ?_
      refine sp_getfield X (pc := 29) (c := 5) (i := 3) (t := 2) (a := (NA j)) (v := va_rf (m.fR 323 (NA j))) rfl hnt (by decide) rfl rfl fl_Taking_144 dX8_judgeSharing_29 ?_
      refine sp_ifnonnull X (pc := 32) (tgt := 38) dX8_judgeSharing_32 (by decide) (fun ra32 hb32 => ?_) (fun hb32 => ?_)
      · have hk1 : T.k j = 1 := Classical.byContradiction fun z => by
          rw [hnd.2.2.2.2.2.1, if_neg z] at hb32
          cases hb32
        have hhb : T.h j < nb0 := by
          rcases hW.2.2.2.1 j hjn with z | ⟨-, z⟩ | ⟨z, -⟩
          · rw [hk1] at z; exact absurd z (by decide)
          · exact z
          · rw [hk1] at z; exact absurd z (by decide)
        have hrb : ra32 = BA (T.h j) := by
          rw [hnd.2.2.2.2.2.1, if_pos hk1] at hb32
          exact (Option.some.inj hb32).symm
        subst hrb
        refine sp_aload_n X (pc := 38) (r := some (A 7)) dX8_judgeSharing_38 rfl rfl ?_
        refine sp_aload_n X (pc := 39) (r := (some (NA j))) dX8_judgeSharing_39 rfl rfl ?_
        refine sp_getfield X (pc := 40) (c := 5) (i := 3) (t := 2) (a := (NA j)) (v := va_rf (some (BA (T.h j)))) rfl hnt (by decide) rfl (congrArg va_rf hb32) fl_Taking_144 dX8_judgeSharing_40 ?_
        refine sp_putR X (pc := 43) (c := 9) (i := 12) (q := 588) (a := (A 7)) rfl (by first | assumption | omega) (by decide) rfl rfl (Or.inl rfl)  fl_Taking_66 dX8_judgeSharing_43 ?_
        have hI1 : sp_I G P A (m.pR 588 (A 7) (some (BA (T.h j)))) := hI.pR (by decide) (fun x hx => by cases hx; rw [if_pos rfl]; exact hBT _ hhb) (fun z => by omega)
        have hF1 : sp_F m (m.pR 588 (A 7) (some (BA (T.h j)))) A sp_Tj := (sp_F.refl m A sp_Tj).pR (by unfold sp_Tj; decide) (by decide)
        have hjs1 := hjs.e (some (T.h j))
        have h6 : (m.pR 588 (A 7) (some (BA (T.h j)))).fR 586 (A 7) = th.map NA := hjs1.2.2.1
        refine sp_aload_n X (pc := 46) (r := (some (NA j))) dX8_judgeSharing_46 rfl rfl ?_
        refine sp_aload_n X (pc := 47) (r := some (A 7)) dX8_judgeSharing_47 rfl rfl ?_
        refine sp_getfield X (pc := 48) (c := 9) (i := 10) (t := 2) (a := (A 7)) (v := va_rf (m.fR 586 (A 7))) rfl (by first | assumption | omega) (by decide) rfl rfl fl_Taking_60 dX8_judgeSharing_48 ?_
        refine sp_acmp_ne X (pc := 51) (tgt := 59) dX8_judgeSharing_51 (by decide) (fun hb51 => ?_) (fun hb51 => ?_)
        · have hne : ¬ th = some j := fun z => hb51 (by rw [hjs.2.2.1, z]; rfl)
          refine sp_iconst X (pc := 59) (v := 0) dX8_judgeSharing_59 (by decide) ?_
          refine sp_ireturn X (pc := 60) dX8_judgeSharing_60 rfl ⟨_, rfl, ?_⟩
          first
            | exact ⟨hI1, hF1, none, some (T.h j), hjs1, fun i z => (by cases z), fun q z => by cases z; exact hhb, _, ho, Or.inr ⟨j, rfl, hk1, rfl, rfl, Or.inr ⟨hne, rfl⟩⟩⟩
            | exact ⟨hI1.pR (by decide) (fun x hx => by cases hx; rw [if_neg (by decide)]; exact hnt) (fun z => by omega), hF1.pR (by unfold sp_Tj; decide) (by decide), some j, some (T.h j), hjs1.d (some j), fun i z => by cases z; exact hjn, fun q z => by cases z; exact hhb, _, ho, Or.inr ⟨j, rfl, hk1, rfl, rfl, Or.inl ⟨heq, rfl⟩⟩⟩
        · have heq : th = some j := by
            rw [hjs.2.2.1] at hb51
            cases th with
            | none => cases hb51
            | some i => exact congrArg some (hN.inj hn200 (hth i rfl) hjn (Option.some.inj hb51).symm)
          refine sp_aload_n X (pc := 54) (r := some (A 7)) dX8_judgeSharing_54 rfl rfl ?_
          refine sp_aload_n X (pc := 55) (r := (some (NA j))) dX8_judgeSharing_55 rfl rfl ?_
          refine sp_putR X (pc := 56) (c := 9) (i := 11) (q := 587) (a := (A 7)) rfl (by first | assumption | omega) (by decide) rfl rfl (Or.inl rfl)  fl_Taking_63 dX8_judgeSharing_56 ?_
          refine sp_iconst X (pc := 59) (v := 0) dX8_judgeSharing_59 (by decide) ?_
          refine sp_ireturn X (pc := 60) dX8_judgeSharing_60 rfl ⟨_, rfl, ?_⟩
          first
            | exact ⟨hI1, hF1, none, some (T.h j), hjs1, fun i z => (by cases z), fun q z => by cases z; exact hhb, _, ho, Or.inr ⟨j, rfl, hk1, rfl, rfl, Or.inr ⟨hne, rfl⟩⟩⟩
            | exact ⟨hI1.pR (by decide) (fun x hx => by cases hx; rw [if_neg (by decide)]; exact hnt) (fun z => by omega), hF1.pR (by unfold sp_Tj; decide) (by decide), some j, some (T.h j), hjs1.d (some j), fun i z => by cases z; exact hjn, fun q z => by cases z; exact hhb, _, ho, Or.inr ⟨j, rfl, hk1, rfl, rfl, Or.inl ⟨heq, rfl⟩⟩⟩
      · have hno : ¬ ∃ i, some j = some i ∧ T.k i = 1 := fun ⟨i, z1, z2⟩ => by
          cases z1
          rw [hnd.2.2.2.2.2.1, if_pos z2] at hb32
          cases hb32
        refine sp_bipush X (pc := 35) (v := (-19)) dX8_judgeSharing_35 (by decide) ?_
        refine sp_ireturn X (pc := 37) dX8_judgeSharing_37 rfl ⟨_, rfl, ?_⟩
        exact ⟨hI, sp_F.refl m A sp_Tj, none, none, hjs, fun j z => (by cases z), fun j z => (by cases z), _, ho, Or.inl ⟨hno, rfl⟩⟩
  refine sp_aload_n X (pc := 0) (r := some (A 7)) dX8_judgeSharing_0 rfl rfl ?_
  refine sp_getfield X (pc := 1) (c := 9) (i := 1) (t := 2) (a := (A 7)) (v := va_rf (some (A 5))) rfl (by first | assumption | omega) (by decide) rfl (congrArg va_rf (hS.p 577 7 5 (by decide))) fl_Taking_15 dX8_judgeSharing_1 ?_
  refine sp_aload_n X (pc := 4) (r := some p) dX8_judgeSharing_4 rfl rfl ?_
  refine sp_aload_n X (pc := 5) (r := some (A 7)) dX8_judgeSharing_5 rfl rfl ?_
  refine sp_getfield X (pc := 6) (c := 9) (i := 0) (t := 2) (a := (A 7)) (v := va_rf (some (A 0))) rfl (by first | assumption | omega) (by decide) rfl (congrArg va_rf (hS.p 576 7 0 (by decide))) fl_Taking_9 dX8_judgeSharing_6 ?_
  refine sp_getfield X (pc := 9) (c := 8) (i := 4) (t := 0) (a := (A 0)) (v := .int (m.fI 516 (A 0))) rfl (by first | assumption | omega) (by decide) rfl rfl fl_Taking_160 dX8_judgeSharing_9 ?_
  refine sp_if_ne X (pc := 12) (tgt := 19) dX8_judgeSharing_12 (by decide) (fun hb12 => ?_) (fun hb12 => ?_)
  · refine sp_iconst X (pc := 19) (v := 0) dX8_judgeSharing_19 (by decide) ?_
    first
      | exact cut20 1 ⟨fun _ => Classical.byContradiction fun z => (hcR.2.2.2.2.1.mpr z) hb12, fun _ => by decide⟩
      | exact cut20 0 ⟨fun z => absurd rfl z, fun z => absurd z (hcR.2.2.2.2.1.mp hb12)⟩
  · refine sp_iconst X (pc := 15) (v := 1) dX8_judgeSharing_15 (by decide) ?_
    refine sp_goto X (pc := 16) (tgt := 20) dX8_judgeSharing_16 (by decide) ?_
    first
      | exact cut20 1 ⟨fun _ => Classical.byContradiction fun z => (hcR.2.2.2.2.1.mpr z) hb12, fun _ => by decide⟩
      | exact cut20 0 ⟨fun z => absurd rfl z, fun z => absurd z (hcR.2.2.2.2.1.mp hb12)⟩
set_option maxHeartbeats 1000000 in
set_option maxRecDepth 20000 in
theorem c_Taking_judgeKind (l : Launch) (G : sp_G) (m : sp_M) {P : Nat → Prop} {A : Nat → Nat} (hG : sp_GS G) (hI : sp_I G P A m) {R : Int32} {TT : Nat → List Int32} {n nb0 nt0 : Nat} {T : pu_N} {NA BA : Nat → Nat} (hN : sp_cN G m A R TT n T NA BA) (hW : pu_W n nb0 nt0 T) (hcR : sp_cR m A R) (hTT : ∀ t, t < nt0 → (TT t).length ≤ 40) {f lk : Nat} {th : Option Nat} (hjs : sp_js m A NA BA n f lk th none none 0) (hlk : lk ≤ 100) (hth : ∀ j, th = some j → j < n) {e o on L9 ed9 n9 tg : Nat} {kd : Int32} {ou : List (List Int32)} (he : m.ty e = 4) (hkd : m.fI 192 e = kd) (ho1 : m.fR 194 e = some o) (hpto : sp_pt G m o L9 ed9 n9) (hpvo : sp_pv G m o on ou) (h2 : kd = 2 → ou = pu_tp R TT tg ∧ ou.length ≤ 20 ∧ sp_bo (m.fI 449 o) (pu_tf R TT tg)) (hBT : ∀ q, q < nb0 → m.ty (BA q) = 2) : sp_C l G M_Taking_judgeKind 6810 27240 [.ref (A 7), .ref e] m (sp_oI fun v m' => sp_I G P A m' ∧ sp_F m m' A sp_Tj ∧ ∃ al' sh' dd', sp_js m' A NA BA n f lk th al' sh' dd' ∧ (∀ j, al' = some j → j < n) ∧ (∀ q, sh' = some q → q < nb0) ∧ pu_jk R n T (pu_tp R TT) (pu_tf R TT) kd tg ou f lk th v al' sh' dd') := by
  refine sp_enter (lv0 := [(0, false, va_rf (some (A 7))), (1, false, va_rf (some e))]) "SafePaths$Taking" false rfl (by decide) (fun h => by cases h) (Nat.le_of_ble_eq_true rfl) rfl ?_
  intro w X
  have hS := hI.S
  have t0 := hS.k 0 9 (by decide)
  have t5 := hS.k 5 11 (by decide)
  have t6 := hS.k 6 12 (by decide)
  have t7 := hS.k 7 10 (by decide)
  have h6 := hjs.2.2.1
  obtain ⟨-, e15, s15, hli15, -⟩ := hS.2.2.1 15 sp_ix15
  have hz : ∀ j : Nat, (none : Option Nat) = some j → j < n := fun j z => by cases z
  have hz2 : ∀ j : Nat, (none : Option Nat) = some j → j < nb0 := fun j z => by cases z
  refine sp_aload_n X (pc := 0) (r := some e) dX8_judgeKind_0 rfl rfl ?_
  refine sp_getfield X (pc := 1) (c := 3) (i := 0) (t := 0) (a := e) (v := .int kd) rfl (by first | assumption | omega) (by decide) rfl (congrArg Value.int hkd) fl_Taking_173 dX8_judgeKind_1 ?_
  refine sp_iconst X (pc := 4) (v := 4) dX8_judgeKind_4 (by decide) ?_
  refine sp_icmp_ne X (pc := 5) (tgt := 11) dX8_judgeKind_5 (by decide) (fun hb5 => ?_) (fun hb5 => ?_)
  · refine sp_aload_n X (pc := 11) (r := some e) dX8_judgeKind_11 rfl rfl ?_
    refine sp_getfield X (pc := 12) (c := 3) (i := 0) (t := 0) (a := e) (v := .int kd) rfl (by first | assumption | omega) (by decide) rfl (congrArg Value.int hkd) fl_Taking_173 dX8_judgeKind_12 ?_
    refine sp_if_ne X (pc := 15) (tgt := 45) dX8_judgeKind_15 (by decide) (fun hb15 => ?_) (fun hb15 => ?_)
    · have hnf : ¬ (kd = 0 ∧ ∃ j, th = some j ∧ T.k j = 0) := fun z => hb15 z.1
      refine sp_aload_n X (pc := 45) (r := some (A 7)) dX8_judgeKind_45 rfl rfl ?_
      refine sp_aload_n X (pc := 46) (r := some e) dX8_judgeKind_46 rfl rfl ?_
      refine sp_getfield X (pc := 47) (c := 3) (i := 0) (t := 0) (a := e) (v := .int kd) rfl (by first | assumption | omega) (by decide) rfl (congrArg Value.int hkd) fl_Taking_173 dX8_judgeKind_47 ?_
      refine sp_callV X (pc := 50) (mc := 0) (ms := 0) (b := (A 7)) (c := 9) (r := some (A 7)) (As := [.int kd]) (rest := []) (c_Taking_isPlaceTaken l G _ hG hI hN hW hjs hlk hth) ok_Taking_isPlaceTaken rfl t7 (by decide) rfl lk_Taking_179 rfl rfl (Nat.zero_le _) (Nat.le_of_ble_eq_true rfl) (Nat.le_of_ble_eq_true rfl) (Nat.zero_le _) (Nat.zero_le _) dX8_judgeKind_50 (sp_kI fun v50 m50 hp50 => ?_)
      obtain ⟨hp50, hp50m⟩ := hp50; replace hp50m := (hp50m).symm; subst hp50m
      refine sp_if_eq X (pc := 53) (tgt := 59) dX8_judgeKind_53 (by decide) (fun hb53 => ?_) (fun hb53 => ?_)
      · refine sp_aload_n X (pc := 59) (r := some (A 7)) dX8_judgeKind_59 rfl rfl ?_
        refine sp_callV X (pc := 60) (mc := 0) (ms := 0) (b := (A 7)) (c := 9) (r := some (A 7)) (As := []) (rest := []) (c_Taking_isShut l G _ hG hI hN hW hjs hlk) ok_Taking_isShut rfl t7 (by decide) rfl lk_Taking_156 rfl rfl (Nat.zero_le _) (Nat.le_of_ble_eq_true rfl) (Nat.le_of_ble_eq_true rfl) (Nat.zero_le _) (Nat.zero_le _) dX8_judgeKind_60 (sp_kI fun v60 m60 hp60 => ?_)
        obtain ⟨hp60, hp60m⟩ := hp60; replace hp60m := (hp60m).symm; subst hp60m
        refine sp_if_eq X (pc := 63) (tgt := 69) dX8_judgeKind_63 (by decide) (fun hb63 => ?_) (fun hb63 => ?_)
        · have hup : ∀ v al sh dd, _ → pu_jk R n T (pu_tp R TT) (pu_tf R TT) kd tg ou f lk th v al sh dd := fun v al sh dd h => Or.inr ⟨hb5, Or.inr ⟨hnf, Or.inr ⟨hp50.eq hb53, Or.inr ⟨hp60.eq hb63, h⟩⟩⟩⟩
          refine sp_aload_n X (pc := 69) (r := some e) dX8_judgeKind_69 rfl rfl ?_
          refine sp_getfield X (pc := 70) (c := 3) (i := 0) (t := 0) (a := e) (v := .int kd) rfl (by first | assumption | omega) (by decide) rfl (congrArg Value.int hkd) fl_Taking_173 dX8_judgeKind_70 ?_
          refine sp_iconst X (pc := 73) (v := 2) dX8_judgeKind_73 (by decide) ?_
          refine sp_icmp_ne X (pc := 74) (tgt := 133) dX8_judgeKind_74 (by decide) (fun hb74 => ?_) (fun hb74 => ?_)
          · refine sp_aload_n X (pc := 133) (r := some e) dX8_judgeKind_133 rfl rfl ?_
            refine sp_getfield X (pc := 134) (c := 3) (i := 0) (t := 0) (a := e) (v := .int kd) rfl (by first | assumption | omega) (by decide) rfl (congrArg Value.int hkd) fl_Taking_173 dX8_judgeKind_134 ?_
            refine sp_iconst X (pc := 137) (v := 3) dX8_judgeKind_137 (by decide) ?_
            refine sp_icmp_ne X (pc := 138) (tgt := 152) dX8_judgeKind_138 (by decide) (fun hb138 => ?_) (fun hb138 => ?_)
            · refine sp_iconst X (pc := 152) (v := 0) dX8_judgeKind_152 (by decide) ?_
              refine sp_ireturn X (pc := 153) dX8_judgeKind_153 rfl ⟨_, rfl, ?_⟩
              first
                | (obtain ⟨k1, k2, al', sh', k3, k4, k5, o9, k6, k7⟩ := hp146
                   refine ⟨k1, k2, al', sh', 0, k3, k4, k5, hup _ _ _ _ (Or.inr (Or.inl ⟨hb138, o9, k6, ?_⟩))⟩
                   rcases k7 with k7 | ⟨j, q1, q2, q3, q4, q5⟩
                   · exact Or.inl k7
                   · exact Or.inr ⟨j, q1, q2, q3, q4, rfl, q5⟩)
                | exact ⟨hI, sp_F.refl m A sp_Tj, none, none, 0, hjs, hz, hz2, hup _ _ _ _ (Or.inr (Or.inr ⟨hb74, hb138, rfl, rfl, rfl, rfl⟩))⟩
            · refine sp_aload_n X (pc := 141) (r := some (A 7)) dX8_judgeKind_141 rfl rfl ?_
              refine sp_aload_n X (pc := 142) (r := some e) dX8_judgeKind_142 rfl rfl ?_
              refine sp_getfield X (pc := 143) (c := 3) (i := 2) (t := 2) (a := e) (v := va_rf (some o)) rfl (by first | assumption | omega) (by decide) rfl (congrArg va_rf ho1) fl_Taking_183 dX8_judgeKind_143 ?_
              refine sp_callV X (pc := 146) (mc := 0) (ms := 0) (b := (A 7)) (c := 9) (r := some (A 7)) (As := [va_rf (some o)]) (rest := []) (c_Taking_judgeSharing l G _ hG hI hN hW hcR hjs hth hpto hpvo hBT) ok_Taking_judgeSharing rfl t7 (by decide) rfl lk_Taking_195 rfl rfl (Nat.zero_le _) (Nat.le_of_ble_eq_true rfl) (Nat.le_of_ble_eq_true rfl) (Nat.zero_le _) (Nat.zero_le _) dX8_judgeKind_146 (sp_kI fun v146 m146 hp146 => ?_)
              refine sp_goto X (pc := 149) (tgt := 153) dX8_judgeKind_149 (by decide) ?_
              refine sp_ireturn X (pc := 153) dX8_judgeKind_153 rfl ⟨_, rfl, ?_⟩
              first
                | (obtain ⟨k1, k2, al', sh', k3, k4, k5, o9, k6, k7⟩ := hp146
                   refine ⟨k1, k2, al', sh', 0, k3, k4, k5, hup _ _ _ _ (Or.inr (Or.inl ⟨hb138, o9, k6, ?_⟩))⟩
                   rcases k7 with k7 | ⟨j, q1, q2, q3, q4, q5⟩
                   · exact Or.inl k7
                   · exact Or.inr ⟨j, q1, q2, q3, q4, rfl, q5⟩)
                | exact ⟨hI, sp_F.refl m A sp_Tj, none, none, 0, hjs, hz, hz2, hup _ _ _ _ (Or.inr (Or.inr ⟨hb74, hb138, rfl, rfl, rfl, rfl⟩))⟩
          · have h2k := h2 hb74
            refine sp_aload_n X (pc := 77) (r := some (A 7)) dX8_judgeKind_77 rfl rfl ?_
            refine sp_aload_n X (pc := 78) (r := some (A 7)) dX8_judgeKind_78 rfl rfl ?_
            refine sp_getfield X (pc := 79) (c := 9) (i := 2) (t := 2) (a := (A 7)) (v := va_rf (some (A 6))) rfl (by first | assumption | omega) (by decide) rfl (congrArg va_rf (hS.p 578 7 6 (by decide))) fl_Taking_19 dX8_judgeKind_79 ?_
            refine sp_aload_n X (pc := 82) (r := some e) dX8_judgeKind_82 rfl rfl ?_
            refine sp_getfield X (pc := 83) (c := 3) (i := 2) (t := 2) (a := e) (v := va_rf (some o)) rfl (by first | assumption | omega) (by decide) rfl (congrArg va_rf ho1) fl_Taking_183 dX8_judgeKind_83 ?_
            refine sp_aload_n X (pc := 86) (r := some (A 7)) dX8_judgeKind_86 rfl rfl ?_
            refine sp_getfield X (pc := 87) (c := 9) (i := 8) (t := 2) (a := (A 7)) (v := va_rf (some (NA f))) rfl (by first | assumption | omega) (by decide) rfl (congrArg va_rf hjs.1.1) fl_Taking_54 dX8_judgeKind_87 ?_
            refine sp_aload_n X (pc := 90) (r := some (A 7)) dX8_judgeKind_90 rfl rfl ?_
            refine sp_getfield X (pc := 91) (c := 9) (i := 9) (t := 0) (a := (A 7)) (v := .int (nI lk)) rfl (by first | assumption | omega) (by decide) rfl (congrArg Value.int hjs.2.1) fl_Taking_57 dX8_judgeKind_91 ?_
            refine sp_callV X (pc := 94) (mc := 6810 - m.ln e15) (ms := 4 * (6810 - m.ln e15)) (b := (A 6)) (c := 11) (r := (some (A 6))) (As := [va_rf (some o), va_rf (some (NA f)), .int (nI lk)]) (rest := [va_rf (some (A 7))]) (c_Walk_goThrough l G _ hG hI hN hW hcR.2.1 hTT hpto hpvo h2k.2.1 hjs.1.2 hlk hli15) ok_Walk_goThrough rfl t6 (by decide) rfl lk_Taking_186 rfl rfl (by simp [sp_cat_rf, sp_cat_i, sp_cat_l]) (Nat.le_of_ble_eq_true rfl) (Nat.le_of_ble_eq_true rfl) (by omega) (by omega) dX8_judgeKind_94 (sp_kI fun v94 m94 hp94 => ?_)
            obtain ⟨k1, k2, ff, k5, k6⟩ := hp94
            have hS94 := k1.S
            have v7 := hS94.k 7 10 (by decide)
            have v0 := hS94.k 0 9 (by decide)
            have k3 : sp_F m m94 A sp_Tj := (sp_F.refl m A sp_Tj).trans k2 sp_15.j
            have js94 := hjs.F (hI.lt 7 10 (by decide) (by decide)) k2 (by unfold sp_15; decide)
            have c94 := hcR.F hI k2
            have k7 : (pu_tf R TT tg ∧ ff = 0) ∨ (¬ pu_tf R TT tg ∧ ff = f) := k5.imp (fun z => ⟨h2k.2.2.ne z.1, z.2⟩) (fun z => ⟨h2k.2.2.eq z.1, z.2⟩)
            rw [h2k.1] at k6
            refine sp_iconst X (pc := 97) (v := (-1)) dX8_judgeKind_97 (by decide) ?_
            refine sp_icmp_ne X (pc := 98) (tgt := 105) dX8_judgeKind_98 (by decide) (fun hb98 => ?_) (fun hb98 => ?_)
            · refine sp_iconst X (pc := 105) (v := 0) dX8_judgeKind_105 (by decide) ?_
              refine sp_putI X (pc := 106) (c := 9) (i := 13) (q := 589) (a := (A 7)) rfl (by first | assumption | omega) (by decide) rfl rfl (Or.inl rfl) ⟨rfl, rfl⟩ fl_Taking_70 dX8_judgeKind_106 ?_
              refine sp_aload_n X (pc := 109) (r := some (A 7)) dX8_judgeKind_109 rfl rfl ?_
              refine sp_getfield X (pc := 110) (c := 9) (i := 13) (t := 0) (a := (A 7)) (v := .int 0) rfl (by first | assumption | omega) (by decide) rfl (by simp [sp_fv, sp_pI_nx, sp_pI_ty, sp_pI_ln, sp_pI_fI, sp_pI_fL, sp_pI_fR, sp_pI_aI, sp_pI_aL, sp_pI_aR, sp_pL_nx, sp_pL_ty, sp_pL_ln, sp_pL_fI, sp_pL_fL, sp_pL_fR, sp_pL_aI, sp_pL_aL, sp_pL_aR, sp_pR_nx, sp_pR_ty, sp_pR_ln, sp_pR_fI, sp_pR_fL, sp_pR_fR, sp_pR_aI, sp_pR_aL, sp_pR_aR, sp_sI_nx, sp_sI_ty, sp_sI_ln, sp_sI_fI, sp_sI_fL, sp_sI_fR, sp_sI_aI, sp_sI_aL, sp_sI_aR, sp_sL_nx, sp_sL_ty, sp_sL_ln, sp_sL_fI, sp_sL_fL, sp_sL_fR, sp_sL_aI, sp_sL_aL, sp_sL_aR, sp_sR_nx, sp_sR_ty, sp_sR_ln, sp_sR_fI, sp_sR_fL, sp_sR_fR, sp_sR_aI, sp_sR_aL, sp_sR_aR, sp_newO_nx, sp_newA_nx, sp_newO_ty, sp_newA_ty, sp_newO_ln, sp_newA_ln, sp_newO_fI, sp_newA_fI, sp_newO_fL, sp_newA_fL, sp_newO_fR, sp_newA_fR, sp_newO_aI, sp_newA_aI, sp_newO_aL, sp_newA_aL, sp_newO_aR, sp_newA_aR]) fl_Taking_70 dX8_judgeKind_110 ?_
              refine sp_if_eq X (pc := 113) (tgt := 131) dX8_judgeKind_113 (by decide) (fun hb113 => ?_) (fun hb113 => ?_)
              · refine sp_iconst X (pc := 131) (v := 0) dX8_judgeKind_131 (by decide) ?_
                refine sp_ireturn X (pc := 132) dX8_judgeKind_132 rfl ⟨_, rfl, ?_⟩
                first
                  | exact absurd rfl hb113
                  | exact absurd hb113 (show ¬ (1 : Int32) = 0 by decide)
                  | exact ⟨k1.dead (Or.inl rfl), k3.pI (by unfold sp_Tj; decide) (by decide), none, none, 0, js94.g 0, hz, hz2, hup _ _ _ _ (Or.inl ⟨hb74, ff, _, k7, k6, Or.inr (Or.inr ⟨hb98, rfl, rfl, rfl, rfl⟩)⟩)⟩
                  | exact ⟨k1.dead (Or.inr rfl), k3.pI (by unfold sp_Tj; decide) (by decide), none, none, 1, js94.g 1, hz, hz2, hup _ _ _ _ (Or.inl ⟨hb74, ff, _, k7, k6, Or.inr (Or.inl ⟨hb98, c94.2.2.1.mp hb123, rfl, rfl, rfl, rfl⟩)⟩)⟩
                  | exact ⟨k1.dead (Or.inr rfl), k3.pI (by unfold sp_Tj; decide) (by decide), none, none, 1, js94.g 1, hz, hz2, hup _ _ _ _ (Or.inl ⟨hb74, ff, _, k7, k6, Or.inl ⟨hb98, Classical.byContradiction fun z => (c94.2.2.1.mpr z) hb123, rfl⟩⟩)⟩
              · refine sp_aload_n X (pc := 116) (r := some (A 7)) dX8_judgeKind_116 rfl rfl ?_
                refine sp_getfield X (pc := 117) (c := 9) (i := 0) (t := 2) (a := (A 7)) (v := va_rf (some (A 0))) rfl (by first | assumption | omega) (by decide) rfl (congrArg va_rf (hS94.p 576 7 0 (by decide))) fl_Taking_9 dX8_judgeKind_117 ?_
                refine sp_getfield X (pc := 120) (c := 8) (i := 2) (t := 0) (a := (A 0)) (v := .int (m94.fI 514 (A 0))) rfl (by first | assumption | omega) (by decide) rfl rfl fl_Taking_192 dX8_judgeKind_120 ?_
                refine sp_if_ne X (pc := 123) (tgt := 131) dX8_judgeKind_123 (by decide) (fun hb123 => ?_) (fun hb123 => ?_)
                · refine sp_iconst X (pc := 131) (v := 0) dX8_judgeKind_131 (by decide) ?_
                  refine sp_ireturn X (pc := 132) dX8_judgeKind_132 rfl ⟨_, rfl, ?_⟩
                  first
                    | exact absurd rfl hb113
                    | exact absurd hb113 (show ¬ (1 : Int32) = 0 by decide)
                    | exact ⟨k1.dead (Or.inl rfl), k3.pI (by unfold sp_Tj; decide) (by decide), none, none, 0, js94.g 0, hz, hz2, hup _ _ _ _ (Or.inl ⟨hb74, ff, _, k7, k6, Or.inr (Or.inr ⟨hb98, rfl, rfl, rfl, rfl⟩)⟩)⟩
                    | exact ⟨k1.dead (Or.inr rfl), k3.pI (by unfold sp_Tj; decide) (by decide), none, none, 1, js94.g 1, hz, hz2, hup _ _ _ _ (Or.inl ⟨hb74, ff, _, k7, k6, Or.inr (Or.inl ⟨hb98, c94.2.2.1.mp hb123, rfl, rfl, rfl, rfl⟩)⟩)⟩
                    | exact ⟨k1.dead (Or.inr rfl), k3.pI (by unfold sp_Tj; decide) (by decide), none, none, 1, js94.g 1, hz, hz2, hup _ _ _ _ (Or.inl ⟨hb74, ff, _, k7, k6, Or.inl ⟨hb98, Classical.byContradiction fun z => (c94.2.2.1.mpr z) hb123, rfl⟩⟩)⟩
                · refine sp_bipush X (pc := 126) (v := (-18)) dX8_judgeKind_126 (by decide) ?_
                  refine sp_goto X (pc := 128) (tgt := 132) dX8_judgeKind_128 (by decide) ?_
                  refine sp_ireturn X (pc := 132) dX8_judgeKind_132 rfl ⟨_, rfl, ?_⟩
                  first
                    | exact absurd rfl hb113
                    | exact absurd hb113 (show ¬ (1 : Int32) = 0 by decide)
                    | exact ⟨k1.dead (Or.inl rfl), k3.pI (by unfold sp_Tj; decide) (by decide), none, none, 0, js94.g 0, hz, hz2, hup _ _ _ _ (Or.inl ⟨hb74, ff, _, k7, k6, Or.inr (Or.inr ⟨hb98, rfl, rfl, rfl, rfl⟩)⟩)⟩
                    | exact ⟨k1.dead (Or.inr rfl), k3.pI (by unfold sp_Tj; decide) (by decide), none, none, 1, js94.g 1, hz, hz2, hup _ _ _ _ (Or.inl ⟨hb74, ff, _, k7, k6, Or.inr (Or.inl ⟨hb98, c94.2.2.1.mp hb123, rfl, rfl, rfl, rfl⟩)⟩)⟩
                    | exact ⟨k1.dead (Or.inr rfl), k3.pI (by unfold sp_Tj; decide) (by decide), none, none, 1, js94.g 1, hz, hz2, hup _ _ _ _ (Or.inl ⟨hb74, ff, _, k7, k6, Or.inl ⟨hb98, Classical.byContradiction fun z => (c94.2.2.1.mpr z) hb123, rfl⟩⟩)⟩
            · refine sp_iconst X (pc := 101) (v := 1) dX8_judgeKind_101 (by decide) ?_
              refine sp_goto X (pc := 102) (tgt := 106) dX8_judgeKind_102 (by decide) ?_
              refine sp_putI X (pc := 106) (c := 9) (i := 13) (q := 589) (a := (A 7)) rfl (by first | assumption | omega) (by decide) rfl rfl (Or.inl rfl) ⟨rfl, rfl⟩ fl_Taking_70 dX8_judgeKind_106 ?_
              refine sp_aload_n X (pc := 109) (r := some (A 7)) dX8_judgeKind_109 rfl rfl ?_
              refine sp_getfield X (pc := 110) (c := 9) (i := 13) (t := 0) (a := (A 7)) (v := .int 1) rfl (by first | assumption | omega) (by decide) rfl (by simp [sp_fv, sp_pI_nx, sp_pI_ty, sp_pI_ln, sp_pI_fI, sp_pI_fL, sp_pI_fR, sp_pI_aI, sp_pI_aL, sp_pI_aR, sp_pL_nx, sp_pL_ty, sp_pL_ln, sp_pL_fI, sp_pL_fL, sp_pL_fR, sp_pL_aI, sp_pL_aL, sp_pL_aR, sp_pR_nx, sp_pR_ty, sp_pR_ln, sp_pR_fI, sp_pR_fL, sp_pR_fR, sp_pR_aI, sp_pR_aL, sp_pR_aR, sp_sI_nx, sp_sI_ty, sp_sI_ln, sp_sI_fI, sp_sI_fL, sp_sI_fR, sp_sI_aI, sp_sI_aL, sp_sI_aR, sp_sL_nx, sp_sL_ty, sp_sL_ln, sp_sL_fI, sp_sL_fL, sp_sL_fR, sp_sL_aI, sp_sL_aL, sp_sL_aR, sp_sR_nx, sp_sR_ty, sp_sR_ln, sp_sR_fI, sp_sR_fL, sp_sR_fR, sp_sR_aI, sp_sR_aL, sp_sR_aR, sp_newO_nx, sp_newA_nx, sp_newO_ty, sp_newA_ty, sp_newO_ln, sp_newA_ln, sp_newO_fI, sp_newA_fI, sp_newO_fL, sp_newA_fL, sp_newO_fR, sp_newA_fR, sp_newO_aI, sp_newA_aI, sp_newO_aL, sp_newA_aL, sp_newO_aR, sp_newA_aR]) fl_Taking_70 dX8_judgeKind_110 ?_
              refine sp_if_eq X (pc := 113) (tgt := 131) dX8_judgeKind_113 (by decide) (fun hb113 => ?_) (fun hb113 => ?_)
              · refine sp_iconst X (pc := 131) (v := 0) dX8_judgeKind_131 (by decide) ?_
                refine sp_ireturn X (pc := 132) dX8_judgeKind_132 rfl ⟨_, rfl, ?_⟩
                first
                  | exact absurd rfl hb113
                  | exact absurd hb113 (show ¬ (1 : Int32) = 0 by decide)
                  | exact ⟨k1.dead (Or.inl rfl), k3.pI (by unfold sp_Tj; decide) (by decide), none, none, 0, js94.g 0, hz, hz2, hup _ _ _ _ (Or.inl ⟨hb74, ff, _, k7, k6, Or.inr (Or.inr ⟨hb98, rfl, rfl, rfl, rfl⟩)⟩)⟩
                  | exact ⟨k1.dead (Or.inr rfl), k3.pI (by unfold sp_Tj; decide) (by decide), none, none, 1, js94.g 1, hz, hz2, hup _ _ _ _ (Or.inl ⟨hb74, ff, _, k7, k6, Or.inr (Or.inl ⟨hb98, c94.2.2.1.mp hb123, rfl, rfl, rfl, rfl⟩)⟩)⟩
                  | exact ⟨k1.dead (Or.inr rfl), k3.pI (by unfold sp_Tj; decide) (by decide), none, none, 1, js94.g 1, hz, hz2, hup _ _ _ _ (Or.inl ⟨hb74, ff, _, k7, k6, Or.inl ⟨hb98, Classical.byContradiction fun z => (c94.2.2.1.mpr z) hb123, rfl⟩⟩)⟩
              · refine sp_aload_n X (pc := 116) (r := some (A 7)) dX8_judgeKind_116 rfl rfl ?_
                refine sp_getfield X (pc := 117) (c := 9) (i := 0) (t := 2) (a := (A 7)) (v := va_rf (some (A 0))) rfl (by first | assumption | omega) (by decide) rfl (congrArg va_rf (hS94.p 576 7 0 (by decide))) fl_Taking_9 dX8_judgeKind_117 ?_
                refine sp_getfield X (pc := 120) (c := 8) (i := 2) (t := 0) (a := (A 0)) (v := .int (m94.fI 514 (A 0))) rfl (by first | assumption | omega) (by decide) rfl rfl fl_Taking_192 dX8_judgeKind_120 ?_
                refine sp_if_ne X (pc := 123) (tgt := 131) dX8_judgeKind_123 (by decide) (fun hb123 => ?_) (fun hb123 => ?_)
                · refine sp_iconst X (pc := 131) (v := 0) dX8_judgeKind_131 (by decide) ?_
                  refine sp_ireturn X (pc := 132) dX8_judgeKind_132 rfl ⟨_, rfl, ?_⟩
                  first
                    | exact absurd rfl hb113
                    | exact absurd hb113 (show ¬ (1 : Int32) = 0 by decide)
                    | exact ⟨k1.dead (Or.inl rfl), k3.pI (by unfold sp_Tj; decide) (by decide), none, none, 0, js94.g 0, hz, hz2, hup _ _ _ _ (Or.inl ⟨hb74, ff, _, k7, k6, Or.inr (Or.inr ⟨hb98, rfl, rfl, rfl, rfl⟩)⟩)⟩
                    | exact ⟨k1.dead (Or.inr rfl), k3.pI (by unfold sp_Tj; decide) (by decide), none, none, 1, js94.g 1, hz, hz2, hup _ _ _ _ (Or.inl ⟨hb74, ff, _, k7, k6, Or.inr (Or.inl ⟨hb98, c94.2.2.1.mp hb123, rfl, rfl, rfl, rfl⟩)⟩)⟩
                    | exact ⟨k1.dead (Or.inr rfl), k3.pI (by unfold sp_Tj; decide) (by decide), none, none, 1, js94.g 1, hz, hz2, hup _ _ _ _ (Or.inl ⟨hb74, ff, _, k7, k6, Or.inl ⟨hb98, Classical.byContradiction fun z => (c94.2.2.1.mpr z) hb123, rfl⟩⟩)⟩
                · refine sp_bipush X (pc := 126) (v := (-18)) dX8_judgeKind_126 (by decide) ?_
                  refine sp_goto X (pc := 128) (tgt := 132) dX8_judgeKind_128 (by decide) ?_
                  refine sp_ireturn X (pc := 132) dX8_judgeKind_132 rfl ⟨_, rfl, ?_⟩
                  first
                    | exact absurd rfl hb113
                    | exact absurd hb113 (show ¬ (1 : Int32) = 0 by decide)
                    | exact ⟨k1.dead (Or.inl rfl), k3.pI (by unfold sp_Tj; decide) (by decide), none, none, 0, js94.g 0, hz, hz2, hup _ _ _ _ (Or.inl ⟨hb74, ff, _, k7, k6, Or.inr (Or.inr ⟨hb98, rfl, rfl, rfl, rfl⟩)⟩)⟩
                    | exact ⟨k1.dead (Or.inr rfl), k3.pI (by unfold sp_Tj; decide) (by decide), none, none, 1, js94.g 1, hz, hz2, hup _ _ _ _ (Or.inl ⟨hb74, ff, _, k7, k6, Or.inr (Or.inl ⟨hb98, c94.2.2.1.mp hb123, rfl, rfl, rfl, rfl⟩)⟩)⟩
                    | exact ⟨k1.dead (Or.inr rfl), k3.pI (by unfold sp_Tj; decide) (by decide), none, none, 1, js94.g 1, hz, hz2, hup _ _ _ _ (Or.inl ⟨hb74, ff, _, k7, k6, Or.inl ⟨hb98, Classical.byContradiction fun z => (c94.2.2.1.mpr z) hb123, rfl⟩⟩)⟩
        · refine sp_bipush X (pc := 66) (v := (-16)) dX8_judgeKind_66 (by decide) ?_
          refine sp_ireturn X (pc := 68) dX8_judgeKind_68 rfl ⟨_, rfl, ?_⟩
          exact ⟨hI, sp_F.refl m A sp_Tj, none, none, 0, hjs, hz, hz2, Or.inr ⟨hb5, Or.inr ⟨hnf, Or.inr ⟨hp50.eq hb53, Or.inl ⟨(hp60.ne hb63).1, (hp60.ne hb63).2, rfl⟩⟩⟩⟩⟩
      · refine sp_bipush X (pc := 56) (v := (-17)) dX8_judgeKind_56 (by decide) ?_
        refine sp_ireturn X (pc := 58) dX8_judgeKind_58 rfl ⟨_, rfl, ?_⟩
        exact ⟨hI, sp_F.refl m A sp_Tj, none, none, 0, hjs, hz, hz2, Or.inr ⟨hb5, Or.inr ⟨hnf, Or.inl ⟨hp50.ne hb53, rfl⟩⟩⟩⟩
    · refine sp_aload_n X (pc := 18) (r := some (A 7)) dX8_judgeKind_18 rfl rfl ?_
      refine sp_getfield X (pc := 19) (c := 9) (i := 10) (t := 2) (a := (A 7)) (v := va_rf (m.fR 586 (A 7))) rfl (by first | assumption | omega) (by decide) rfl rfl fl_Taking_60 dX8_judgeKind_19 ?_
      refine sp_ifnull X (pc := 22) (tgt := 45) dX8_judgeKind_22 (by decide) (fun hb22 => ?_) (fun ra22 hb22 => ?_)
      · have hnf : ¬ (kd = 0 ∧ ∃ j, th = some j ∧ T.k j = 0) := fun ⟨_, j, z, _⟩ => by
          rw [h6, z] at hb22
          cases hb22
        refine sp_aload_n X (pc := 45) (r := some (A 7)) dX8_judgeKind_45 rfl rfl ?_
        refine sp_aload_n X (pc := 46) (r := some e) dX8_judgeKind_46 rfl rfl ?_
        refine sp_getfield X (pc := 47) (c := 3) (i := 0) (t := 0) (a := e) (v := .int kd) rfl (by first | assumption | omega) (by decide) rfl (congrArg Value.int hkd) fl_Taking_173 dX8_judgeKind_47 ?_
        refine sp_callV X (pc := 50) (mc := 0) (ms := 0) (b := (A 7)) (c := 9) (r := some (A 7)) (As := [.int kd]) (rest := []) (c_Taking_isPlaceTaken l G _ hG hI hN hW hjs hlk hth) ok_Taking_isPlaceTaken rfl t7 (by decide) rfl lk_Taking_179 rfl rfl (Nat.zero_le _) (Nat.le_of_ble_eq_true rfl) (Nat.le_of_ble_eq_true rfl) (Nat.zero_le _) (Nat.zero_le _) dX8_judgeKind_50 (sp_kI fun v50 m50 hp50 => ?_)
        obtain ⟨hp50, hp50m⟩ := hp50; replace hp50m := (hp50m).symm; subst hp50m
        refine sp_if_eq X (pc := 53) (tgt := 59) dX8_judgeKind_53 (by decide) (fun hb53 => ?_) (fun hb53 => ?_)
        · refine sp_aload_n X (pc := 59) (r := some (A 7)) dX8_judgeKind_59 rfl rfl ?_
          refine sp_callV X (pc := 60) (mc := 0) (ms := 0) (b := (A 7)) (c := 9) (r := some (A 7)) (As := []) (rest := []) (c_Taking_isShut l G _ hG hI hN hW hjs hlk) ok_Taking_isShut rfl t7 (by decide) rfl lk_Taking_156 rfl rfl (Nat.zero_le _) (Nat.le_of_ble_eq_true rfl) (Nat.le_of_ble_eq_true rfl) (Nat.zero_le _) (Nat.zero_le _) dX8_judgeKind_60 (sp_kI fun v60 m60 hp60 => ?_)
          obtain ⟨hp60, hp60m⟩ := hp60; replace hp60m := (hp60m).symm; subst hp60m
          refine sp_if_eq X (pc := 63) (tgt := 69) dX8_judgeKind_63 (by decide) (fun hb63 => ?_) (fun hb63 => ?_)
          · have hup : ∀ v al sh dd, _ → pu_jk R n T (pu_tp R TT) (pu_tf R TT) kd tg ou f lk th v al sh dd := fun v al sh dd h => Or.inr ⟨hb5, Or.inr ⟨hnf, Or.inr ⟨hp50.eq hb53, Or.inr ⟨hp60.eq hb63, h⟩⟩⟩⟩
            refine sp_aload_n X (pc := 69) (r := some e) dX8_judgeKind_69 rfl rfl ?_
            refine sp_getfield X (pc := 70) (c := 3) (i := 0) (t := 0) (a := e) (v := .int kd) rfl (by first | assumption | omega) (by decide) rfl (congrArg Value.int hkd) fl_Taking_173 dX8_judgeKind_70 ?_
            refine sp_iconst X (pc := 73) (v := 2) dX8_judgeKind_73 (by decide) ?_
            refine sp_icmp_ne X (pc := 74) (tgt := 133) dX8_judgeKind_74 (by decide) (fun hb74 => ?_) (fun hb74 => ?_)
            · refine sp_aload_n X (pc := 133) (r := some e) dX8_judgeKind_133 rfl rfl ?_
              refine sp_getfield X (pc := 134) (c := 3) (i := 0) (t := 0) (a := e) (v := .int kd) rfl (by first | assumption | omega) (by decide) rfl (congrArg Value.int hkd) fl_Taking_173 dX8_judgeKind_134 ?_
              refine sp_iconst X (pc := 137) (v := 3) dX8_judgeKind_137 (by decide) ?_
              refine sp_icmp_ne X (pc := 138) (tgt := 152) dX8_judgeKind_138 (by decide) (fun hb138 => ?_) (fun hb138 => ?_)
              · refine sp_iconst X (pc := 152) (v := 0) dX8_judgeKind_152 (by decide) ?_
                refine sp_ireturn X (pc := 153) dX8_judgeKind_153 rfl ⟨_, rfl, ?_⟩
                first
                  | (obtain ⟨k1, k2, al', sh', k3, k4, k5, o9, k6, k7⟩ := hp146
                     refine ⟨k1, k2, al', sh', 0, k3, k4, k5, hup _ _ _ _ (Or.inr (Or.inl ⟨hb138, o9, k6, ?_⟩))⟩
                     rcases k7 with k7 | ⟨j, q1, q2, q3, q4, q5⟩
                     · exact Or.inl k7
                     · exact Or.inr ⟨j, q1, q2, q3, q4, rfl, q5⟩)
                  | exact ⟨hI, sp_F.refl m A sp_Tj, none, none, 0, hjs, hz, hz2, hup _ _ _ _ (Or.inr (Or.inr ⟨hb74, hb138, rfl, rfl, rfl, rfl⟩))⟩
              · refine sp_aload_n X (pc := 141) (r := some (A 7)) dX8_judgeKind_141 rfl rfl ?_
                refine sp_aload_n X (pc := 142) (r := some e) dX8_judgeKind_142 rfl rfl ?_
                refine sp_getfield X (pc := 143) (c := 3) (i := 2) (t := 2) (a := e) (v := va_rf (some o)) rfl (by first | assumption | omega) (by decide) rfl (congrArg va_rf ho1) fl_Taking_183 dX8_judgeKind_143 ?_
                refine sp_callV X (pc := 146) (mc := 0) (ms := 0) (b := (A 7)) (c := 9) (r := some (A 7)) (As := [va_rf (some o)]) (rest := []) (c_Taking_judgeSharing l G _ hG hI hN hW hcR hjs hth hpto hpvo hBT) ok_Taking_judgeSharing rfl t7 (by decide) rfl lk_Taking_195 rfl rfl (Nat.zero_le _) (Nat.le_of_ble_eq_true rfl) (Nat.le_of_ble_eq_true rfl) (Nat.zero_le _) (Nat.zero_le _) dX8_judgeKind_146 (sp_kI fun v146 m146 hp146 => ?_)
                refine sp_goto X (pc := 149) (tgt := 153) dX8_judgeKind_149 (by decide) ?_
                refine sp_ireturn X (pc := 153) dX8_judgeKind_153 rfl ⟨_, rfl, ?_⟩
                first
                  | (obtain ⟨k1, k2, al', sh', k3, k4, k5, o9, k6, k7⟩ := hp146
                     refine ⟨k1, k2, al', sh', 0, k3, k4, k5, hup _ _ _ _ (Or.inr (Or.inl ⟨hb138, o9, k6, ?_⟩))⟩
                     rcases k7 with k7 | ⟨j, q1, q2, q3, q4, q5⟩
                     · exact Or.inl k7
                     · exact Or.inr ⟨j, q1, q2, q3, q4, rfl, q5⟩)
                  | exact ⟨hI, sp_F.refl m A sp_Tj, none, none, 0, hjs, hz, hz2, hup _ _ _ _ (Or.inr (Or.inr ⟨hb74, hb138, rfl, rfl, rfl, rfl⟩))⟩
            · have h2k := h2 hb74
              refine sp_aload_n X (pc := 77) (r := some (A 7)) dX8_judgeKind_77 rfl rfl ?_
              refine sp_aload_n X (pc := 78) (r := some (A 7)) dX8_judgeKind_78 rfl rfl ?_
              refine sp_getfield X (pc := 79) (c := 9) (i := 2) (t := 2) (a := (A 7)) (v := va_rf (some (A 6))) rfl (by first | assumption | omega) (by decide) rfl (congrArg va_rf (hS.p 578 7 6 (by decide))) fl_Taking_19 dX8_judgeKind_79 ?_
              refine sp_aload_n X (pc := 82) (r := some e) dX8_judgeKind_82 rfl rfl ?_
              refine sp_getfield X (pc := 83) (c := 3) (i := 2) (t := 2) (a := e) (v := va_rf (some o)) rfl (by first | assumption | omega) (by decide) rfl (congrArg va_rf ho1) fl_Taking_183 dX8_judgeKind_83 ?_
              refine sp_aload_n X (pc := 86) (r := some (A 7)) dX8_judgeKind_86 rfl rfl ?_
              refine sp_getfield X (pc := 87) (c := 9) (i := 8) (t := 2) (a := (A 7)) (v := va_rf (some (NA f))) rfl (by first | assumption | omega) (by decide) rfl (congrArg va_rf hjs.1.1) fl_Taking_54 dX8_judgeKind_87 ?_
              refine sp_aload_n X (pc := 90) (r := some (A 7)) dX8_judgeKind_90 rfl rfl ?_
              refine sp_getfield X (pc := 91) (c := 9) (i := 9) (t := 0) (a := (A 7)) (v := .int (nI lk)) rfl (by first | assumption | omega) (by decide) rfl (congrArg Value.int hjs.2.1) fl_Taking_57 dX8_judgeKind_91 ?_
              refine sp_callV X (pc := 94) (mc := 6810 - m.ln e15) (ms := 4 * (6810 - m.ln e15)) (b := (A 6)) (c := 11) (r := (some (A 6))) (As := [va_rf (some o), va_rf (some (NA f)), .int (nI lk)]) (rest := [va_rf (some (A 7))]) (c_Walk_goThrough l G _ hG hI hN hW hcR.2.1 hTT hpto hpvo h2k.2.1 hjs.1.2 hlk hli15) ok_Walk_goThrough rfl t6 (by decide) rfl lk_Taking_186 rfl rfl (by simp [sp_cat_rf, sp_cat_i, sp_cat_l]) (Nat.le_of_ble_eq_true rfl) (Nat.le_of_ble_eq_true rfl) (by omega) (by omega) dX8_judgeKind_94 (sp_kI fun v94 m94 hp94 => ?_)
              obtain ⟨k1, k2, ff, k5, k6⟩ := hp94
              have hS94 := k1.S
              have v7 := hS94.k 7 10 (by decide)
              have v0 := hS94.k 0 9 (by decide)
              have k3 : sp_F m m94 A sp_Tj := (sp_F.refl m A sp_Tj).trans k2 sp_15.j
              have js94 := hjs.F (hI.lt 7 10 (by decide) (by decide)) k2 (by unfold sp_15; decide)
              have c94 := hcR.F hI k2
              have k7 : (pu_tf R TT tg ∧ ff = 0) ∨ (¬ pu_tf R TT tg ∧ ff = f) := k5.imp (fun z => ⟨h2k.2.2.ne z.1, z.2⟩) (fun z => ⟨h2k.2.2.eq z.1, z.2⟩)
              rw [h2k.1] at k6
              refine sp_iconst X (pc := 97) (v := (-1)) dX8_judgeKind_97 (by decide) ?_
              refine sp_icmp_ne X (pc := 98) (tgt := 105) dX8_judgeKind_98 (by decide) (fun hb98 => ?_) (fun hb98 => ?_)
              · refine sp_iconst X (pc := 105) (v := 0) dX8_judgeKind_105 (by decide) ?_
                refine sp_putI X (pc := 106) (c := 9) (i := 13) (q := 589) (a := (A 7)) rfl (by first | assumption | omega) (by decide) rfl rfl (Or.inl rfl) ⟨rfl, rfl⟩ fl_Taking_70 dX8_judgeKind_106 ?_
                refine sp_aload_n X (pc := 109) (r := some (A 7)) dX8_judgeKind_109 rfl rfl ?_
                refine sp_getfield X (pc := 110) (c := 9) (i := 13) (t := 0) (a := (A 7)) (v := .int 0) rfl (by first | assumption | omega) (by decide) rfl (by simp [sp_fv, sp_pI_nx, sp_pI_ty, sp_pI_ln, sp_pI_fI, sp_pI_fL, sp_pI_fR, sp_pI_aI, sp_pI_aL, sp_pI_aR, sp_pL_nx, sp_pL_ty, sp_pL_ln, sp_pL_fI, sp_pL_fL, sp_pL_fR, sp_pL_aI, sp_pL_aL, sp_pL_aR, sp_pR_nx, sp_pR_ty, sp_pR_ln, sp_pR_fI, sp_pR_fL, sp_pR_fR, sp_pR_aI, sp_pR_aL, sp_pR_aR, sp_sI_nx, sp_sI_ty, sp_sI_ln, sp_sI_fI, sp_sI_fL, sp_sI_fR, sp_sI_aI, sp_sI_aL, sp_sI_aR, sp_sL_nx, sp_sL_ty, sp_sL_ln, sp_sL_fI, sp_sL_fL, sp_sL_fR, sp_sL_aI, sp_sL_aL, sp_sL_aR, sp_sR_nx, sp_sR_ty, sp_sR_ln, sp_sR_fI, sp_sR_fL, sp_sR_fR, sp_sR_aI, sp_sR_aL, sp_sR_aR, sp_newO_nx, sp_newA_nx, sp_newO_ty, sp_newA_ty, sp_newO_ln, sp_newA_ln, sp_newO_fI, sp_newA_fI, sp_newO_fL, sp_newA_fL, sp_newO_fR, sp_newA_fR, sp_newO_aI, sp_newA_aI, sp_newO_aL, sp_newA_aL, sp_newO_aR, sp_newA_aR]) fl_Taking_70 dX8_judgeKind_110 ?_
                refine sp_if_eq X (pc := 113) (tgt := 131) dX8_judgeKind_113 (by decide) (fun hb113 => ?_) (fun hb113 => ?_)
                · refine sp_iconst X (pc := 131) (v := 0) dX8_judgeKind_131 (by decide) ?_
                  refine sp_ireturn X (pc := 132) dX8_judgeKind_132 rfl ⟨_, rfl, ?_⟩
                  first
                    | exact absurd rfl hb113
                    | exact absurd hb113 (show ¬ (1 : Int32) = 0 by decide)
                    | exact ⟨k1.dead (Or.inl rfl), k3.pI (by unfold sp_Tj; decide) (by decide), none, none, 0, js94.g 0, hz, hz2, hup _ _ _ _ (Or.inl ⟨hb74, ff, _, k7, k6, Or.inr (Or.inr ⟨hb98, rfl, rfl, rfl, rfl⟩)⟩)⟩
                    | exact ⟨k1.dead (Or.inr rfl), k3.pI (by unfold sp_Tj; decide) (by decide), none, none, 1, js94.g 1, hz, hz2, hup _ _ _ _ (Or.inl ⟨hb74, ff, _, k7, k6, Or.inr (Or.inl ⟨hb98, c94.2.2.1.mp hb123, rfl, rfl, rfl, rfl⟩)⟩)⟩
                    | exact ⟨k1.dead (Or.inr rfl), k3.pI (by unfold sp_Tj; decide) (by decide), none, none, 1, js94.g 1, hz, hz2, hup _ _ _ _ (Or.inl ⟨hb74, ff, _, k7, k6, Or.inl ⟨hb98, Classical.byContradiction fun z => (c94.2.2.1.mpr z) hb123, rfl⟩⟩)⟩
                · refine sp_aload_n X (pc := 116) (r := some (A 7)) dX8_judgeKind_116 rfl rfl ?_
                  refine sp_getfield X (pc := 117) (c := 9) (i := 0) (t := 2) (a := (A 7)) (v := va_rf (some (A 0))) rfl (by first | assumption | omega) (by decide) rfl (congrArg va_rf (hS94.p 576 7 0 (by decide))) fl_Taking_9 dX8_judgeKind_117 ?_
                  refine sp_getfield X (pc := 120) (c := 8) (i := 2) (t := 0) (a := (A 0)) (v := .int (m94.fI 514 (A 0))) rfl (by first | assumption | omega) (by decide) rfl rfl fl_Taking_192 dX8_judgeKind_120 ?_
                  refine sp_if_ne X (pc := 123) (tgt := 131) dX8_judgeKind_123 (by decide) (fun hb123 => ?_) (fun hb123 => ?_)
                  · refine sp_iconst X (pc := 131) (v := 0) dX8_judgeKind_131 (by decide) ?_
                    refine sp_ireturn X (pc := 132) dX8_judgeKind_132 rfl ⟨_, rfl, ?_⟩
                    first
                      | exact absurd rfl hb113
                      | exact absurd hb113 (show ¬ (1 : Int32) = 0 by decide)
                      | exact ⟨k1.dead (Or.inl rfl), k3.pI (by unfold sp_Tj; decide) (by decide), none, none, 0, js94.g 0, hz, hz2, hup _ _ _ _ (Or.inl ⟨hb74, ff, _, k7, k6, Or.inr (Or.inr ⟨hb98, rfl, rfl, rfl, rfl⟩)⟩)⟩
                      | exact ⟨k1.dead (Or.inr rfl), k3.pI (by unfold sp_Tj; decide) (by decide), none, none, 1, js94.g 1, hz, hz2, hup _ _ _ _ (Or.inl ⟨hb74, ff, _, k7, k6, Or.inr (Or.inl ⟨hb98, c94.2.2.1.mp hb123, rfl, rfl, rfl, rfl⟩)⟩)⟩
                      | exact ⟨k1.dead (Or.inr rfl), k3.pI (by unfold sp_Tj; decide) (by decide), none, none, 1, js94.g 1, hz, hz2, hup _ _ _ _ (Or.inl ⟨hb74, ff, _, k7, k6, Or.inl ⟨hb98, Classical.byContradiction fun z => (c94.2.2.1.mpr z) hb123, rfl⟩⟩)⟩
                  · refine sp_bipush X (pc := 126) (v := (-18)) dX8_judgeKind_126 (by decide) ?_
                    refine sp_goto X (pc := 128) (tgt := 132) dX8_judgeKind_128 (by decide) ?_
                    refine sp_ireturn X (pc := 132) dX8_judgeKind_132 rfl ⟨_, rfl, ?_⟩
                    first
                      | exact absurd rfl hb113
                      | exact absurd hb113 (show ¬ (1 : Int32) = 0 by decide)
                      | exact ⟨k1.dead (Or.inl rfl), k3.pI (by unfold sp_Tj; decide) (by decide), none, none, 0, js94.g 0, hz, hz2, hup _ _ _ _ (Or.inl ⟨hb74, ff, _, k7, k6, Or.inr (Or.inr ⟨hb98, rfl, rfl, rfl, rfl⟩)⟩)⟩
                      | exact ⟨k1.dead (Or.inr rfl), k3.pI (by unfold sp_Tj; decide) (by decide), none, none, 1, js94.g 1, hz, hz2, hup _ _ _ _ (Or.inl ⟨hb74, ff, _, k7, k6, Or.inr (Or.inl ⟨hb98, c94.2.2.1.mp hb123, rfl, rfl, rfl, rfl⟩)⟩)⟩
                      | exact ⟨k1.dead (Or.inr rfl), k3.pI (by unfold sp_Tj; decide) (by decide), none, none, 1, js94.g 1, hz, hz2, hup _ _ _ _ (Or.inl ⟨hb74, ff, _, k7, k6, Or.inl ⟨hb98, Classical.byContradiction fun z => (c94.2.2.1.mpr z) hb123, rfl⟩⟩)⟩
              · refine sp_iconst X (pc := 101) (v := 1) dX8_judgeKind_101 (by decide) ?_
                refine sp_goto X (pc := 102) (tgt := 106) dX8_judgeKind_102 (by decide) ?_
                refine sp_putI X (pc := 106) (c := 9) (i := 13) (q := 589) (a := (A 7)) rfl (by first | assumption | omega) (by decide) rfl rfl (Or.inl rfl) ⟨rfl, rfl⟩ fl_Taking_70 dX8_judgeKind_106 ?_
                refine sp_aload_n X (pc := 109) (r := some (A 7)) dX8_judgeKind_109 rfl rfl ?_
                refine sp_getfield X (pc := 110) (c := 9) (i := 13) (t := 0) (a := (A 7)) (v := .int 1) rfl (by first | assumption | omega) (by decide) rfl (by simp [sp_fv, sp_pI_nx, sp_pI_ty, sp_pI_ln, sp_pI_fI, sp_pI_fL, sp_pI_fR, sp_pI_aI, sp_pI_aL, sp_pI_aR, sp_pL_nx, sp_pL_ty, sp_pL_ln, sp_pL_fI, sp_pL_fL, sp_pL_fR, sp_pL_aI, sp_pL_aL, sp_pL_aR, sp_pR_nx, sp_pR_ty, sp_pR_ln, sp_pR_fI, sp_pR_fL, sp_pR_fR, sp_pR_aI, sp_pR_aL, sp_pR_aR, sp_sI_nx, sp_sI_ty, sp_sI_ln, sp_sI_fI, sp_sI_fL, sp_sI_fR, sp_sI_aI, sp_sI_aL, sp_sI_aR, sp_sL_nx, sp_sL_ty, sp_sL_ln, sp_sL_fI, sp_sL_fL, sp_sL_fR, sp_sL_aI, sp_sL_aL, sp_sL_aR, sp_sR_nx, sp_sR_ty, sp_sR_ln, sp_sR_fI, sp_sR_fL, sp_sR_fR, sp_sR_aI, sp_sR_aL, sp_sR_aR, sp_newO_nx, sp_newA_nx, sp_newO_ty, sp_newA_ty, sp_newO_ln, sp_newA_ln, sp_newO_fI, sp_newA_fI, sp_newO_fL, sp_newA_fL, sp_newO_fR, sp_newA_fR, sp_newO_aI, sp_newA_aI, sp_newO_aL, sp_newA_aL, sp_newO_aR, sp_newA_aR]) fl_Taking_70 dX8_judgeKind_110 ?_
                refine sp_if_eq X (pc := 113) (tgt := 131) dX8_judgeKind_113 (by decide) (fun hb113 => ?_) (fun hb113 => ?_)
                · refine sp_iconst X (pc := 131) (v := 0) dX8_judgeKind_131 (by decide) ?_
                  refine sp_ireturn X (pc := 132) dX8_judgeKind_132 rfl ⟨_, rfl, ?_⟩
                  first
                    | exact absurd rfl hb113
                    | exact absurd hb113 (show ¬ (1 : Int32) = 0 by decide)
                    | exact ⟨k1.dead (Or.inl rfl), k3.pI (by unfold sp_Tj; decide) (by decide), none, none, 0, js94.g 0, hz, hz2, hup _ _ _ _ (Or.inl ⟨hb74, ff, _, k7, k6, Or.inr (Or.inr ⟨hb98, rfl, rfl, rfl, rfl⟩)⟩)⟩
                    | exact ⟨k1.dead (Or.inr rfl), k3.pI (by unfold sp_Tj; decide) (by decide), none, none, 1, js94.g 1, hz, hz2, hup _ _ _ _ (Or.inl ⟨hb74, ff, _, k7, k6, Or.inr (Or.inl ⟨hb98, c94.2.2.1.mp hb123, rfl, rfl, rfl, rfl⟩)⟩)⟩
                    | exact ⟨k1.dead (Or.inr rfl), k3.pI (by unfold sp_Tj; decide) (by decide), none, none, 1, js94.g 1, hz, hz2, hup _ _ _ _ (Or.inl ⟨hb74, ff, _, k7, k6, Or.inl ⟨hb98, Classical.byContradiction fun z => (c94.2.2.1.mpr z) hb123, rfl⟩⟩)⟩
                · refine sp_aload_n X (pc := 116) (r := some (A 7)) dX8_judgeKind_116 rfl rfl ?_
                  refine sp_getfield X (pc := 117) (c := 9) (i := 0) (t := 2) (a := (A 7)) (v := va_rf (some (A 0))) rfl (by first | assumption | omega) (by decide) rfl (congrArg va_rf (hS94.p 576 7 0 (by decide))) fl_Taking_9 dX8_judgeKind_117 ?_
                  refine sp_getfield X (pc := 120) (c := 8) (i := 2) (t := 0) (a := (A 0)) (v := .int (m94.fI 514 (A 0))) rfl (by first | assumption | omega) (by decide) rfl rfl fl_Taking_192 dX8_judgeKind_120 ?_
                  refine sp_if_ne X (pc := 123) (tgt := 131) dX8_judgeKind_123 (by decide) (fun hb123 => ?_) (fun hb123 => ?_)
                  · refine sp_iconst X (pc := 131) (v := 0) dX8_judgeKind_131 (by decide) ?_
                    refine sp_ireturn X (pc := 132) dX8_judgeKind_132 rfl ⟨_, rfl, ?_⟩
                    first
                      | exact absurd rfl hb113
                      | exact absurd hb113 (show ¬ (1 : Int32) = 0 by decide)
                      | exact ⟨k1.dead (Or.inl rfl), k3.pI (by unfold sp_Tj; decide) (by decide), none, none, 0, js94.g 0, hz, hz2, hup _ _ _ _ (Or.inl ⟨hb74, ff, _, k7, k6, Or.inr (Or.inr ⟨hb98, rfl, rfl, rfl, rfl⟩)⟩)⟩
                      | exact ⟨k1.dead (Or.inr rfl), k3.pI (by unfold sp_Tj; decide) (by decide), none, none, 1, js94.g 1, hz, hz2, hup _ _ _ _ (Or.inl ⟨hb74, ff, _, k7, k6, Or.inr (Or.inl ⟨hb98, c94.2.2.1.mp hb123, rfl, rfl, rfl, rfl⟩)⟩)⟩
                      | exact ⟨k1.dead (Or.inr rfl), k3.pI (by unfold sp_Tj; decide) (by decide), none, none, 1, js94.g 1, hz, hz2, hup _ _ _ _ (Or.inl ⟨hb74, ff, _, k7, k6, Or.inl ⟨hb98, Classical.byContradiction fun z => (c94.2.2.1.mpr z) hb123, rfl⟩⟩)⟩
                  · refine sp_bipush X (pc := 126) (v := (-18)) dX8_judgeKind_126 (by decide) ?_
                    refine sp_goto X (pc := 128) (tgt := 132) dX8_judgeKind_128 (by decide) ?_
                    refine sp_ireturn X (pc := 132) dX8_judgeKind_132 rfl ⟨_, rfl, ?_⟩
                    first
                      | exact absurd rfl hb113
                      | exact absurd hb113 (show ¬ (1 : Int32) = 0 by decide)
                      | exact ⟨k1.dead (Or.inl rfl), k3.pI (by unfold sp_Tj; decide) (by decide), none, none, 0, js94.g 0, hz, hz2, hup _ _ _ _ (Or.inl ⟨hb74, ff, _, k7, k6, Or.inr (Or.inr ⟨hb98, rfl, rfl, rfl, rfl⟩)⟩)⟩
                      | exact ⟨k1.dead (Or.inr rfl), k3.pI (by unfold sp_Tj; decide) (by decide), none, none, 1, js94.g 1, hz, hz2, hup _ _ _ _ (Or.inl ⟨hb74, ff, _, k7, k6, Or.inr (Or.inl ⟨hb98, c94.2.2.1.mp hb123, rfl, rfl, rfl, rfl⟩)⟩)⟩
                      | exact ⟨k1.dead (Or.inr rfl), k3.pI (by unfold sp_Tj; decide) (by decide), none, none, 1, js94.g 1, hz, hz2, hup _ _ _ _ (Or.inl ⟨hb74, ff, _, k7, k6, Or.inl ⟨hb98, Classical.byContradiction fun z => (c94.2.2.1.mpr z) hb123, rfl⟩⟩)⟩
          · refine sp_bipush X (pc := 66) (v := (-16)) dX8_judgeKind_66 (by decide) ?_
            refine sp_ireturn X (pc := 68) dX8_judgeKind_68 rfl ⟨_, rfl, ?_⟩
            exact ⟨hI, sp_F.refl m A sp_Tj, none, none, 0, hjs, hz, hz2, Or.inr ⟨hb5, Or.inr ⟨hnf, Or.inr ⟨hp50.eq hb53, Or.inl ⟨(hp60.ne hb63).1, (hp60.ne hb63).2, rfl⟩⟩⟩⟩⟩
        · refine sp_bipush X (pc := 56) (v := (-17)) dX8_judgeKind_56 (by decide) ?_
          refine sp_ireturn X (pc := 58) dX8_judgeKind_58 rfl ⟨_, rfl, ?_⟩
          exact ⟨hI, sp_F.refl m A sp_Tj, none, none, 0, hjs, hz, hz2, Or.inr ⟨hb5, Or.inr ⟨hnf, Or.inl ⟨hp50.ne hb53, rfl⟩⟩⟩⟩
      · obtain ⟨j, hj⟩ : ∃ j, th = some j := by
          cases th with
          | none => rw [h6] at hb22; cases hb22
          | some j => exact ⟨j, rfl⟩
        have hra : ra22 = NA j := by rw [h6, hj] at hb22; exact (Option.some.inj hb22).symm
        subst hra
        have hjn := hth j hj
        have hnt := (hN.2.2 j hjn).1
        have hfd := (hN.2.2 j hjn).fld hW hjn
        refine sp_aload_n X (pc := 25) (r := some (A 7)) dX8_judgeKind_25 rfl rfl ?_
        refine sp_getfield X (pc := 26) (c := 9) (i := 10) (t := 2) (a := (A 7)) (v := va_rf (some (NA j))) rfl (by first | assumption | omega) (by decide) rfl (congrArg va_rf hb22) fl_Taking_60 dX8_judgeKind_26 ?_
        refine sp_callV X (pc := 29) (mc := 0) (ms := 0) (b := (NA j)) (c := 5) (r := (some (NA j))) (As := []) (rest := []) (c_Node_isFolder l G _ hnt) ok_Node_isFolder rfl hnt (by decide) rfl lk_Taking_176 rfl rfl (Nat.zero_le _) (Nat.le_of_ble_eq_true rfl) (Nat.le_of_ble_eq_true rfl) (Nat.zero_le _) (Nat.zero_le _) dX8_judgeKind_29 (sp_kI fun v29 m29 hp29 => ?_)
        obtain ⟨hp29v, hp29⟩ := hp29; replace hp29 := (hp29).symm; subst hp29; replace hp29v := (hp29v).symm; subst hp29v
        refine sp_if_eq X (pc := 32) (tgt := 45) dX8_judgeKind_32 (by decide) (fun hb32 => ?_) (fun hb32 => ?_)
        · have hnf : ¬ (kd = 0 ∧ ∃ j, th = some j ∧ T.k j = 0) := fun ⟨_, i, z1, z2⟩ => by
            rw [hj] at z1
            cases z1
            rw [if_pos (hfd.mpr z2)] at hb32
            exact absurd hb32 (by decide)
          refine sp_aload_n X (pc := 45) (r := some (A 7)) dX8_judgeKind_45 rfl rfl ?_
          refine sp_aload_n X (pc := 46) (r := some e) dX8_judgeKind_46 rfl rfl ?_
          refine sp_getfield X (pc := 47) (c := 3) (i := 0) (t := 0) (a := e) (v := .int kd) rfl (by first | assumption | omega) (by decide) rfl (congrArg Value.int hkd) fl_Taking_173 dX8_judgeKind_47 ?_
          refine sp_callV X (pc := 50) (mc := 0) (ms := 0) (b := (A 7)) (c := 9) (r := some (A 7)) (As := [.int kd]) (rest := []) (c_Taking_isPlaceTaken l G _ hG hI hN hW hjs hlk hth) ok_Taking_isPlaceTaken rfl t7 (by decide) rfl lk_Taking_179 rfl rfl (Nat.zero_le _) (Nat.le_of_ble_eq_true rfl) (Nat.le_of_ble_eq_true rfl) (Nat.zero_le _) (Nat.zero_le _) dX8_judgeKind_50 (sp_kI fun v50 m50 hp50 => ?_)
          obtain ⟨hp50, hp50m⟩ := hp50; replace hp50m := (hp50m).symm; subst hp50m
          refine sp_if_eq X (pc := 53) (tgt := 59) dX8_judgeKind_53 (by decide) (fun hb53 => ?_) (fun hb53 => ?_)
          · refine sp_aload_n X (pc := 59) (r := some (A 7)) dX8_judgeKind_59 rfl rfl ?_
            refine sp_callV X (pc := 60) (mc := 0) (ms := 0) (b := (A 7)) (c := 9) (r := some (A 7)) (As := []) (rest := []) (c_Taking_isShut l G _ hG hI hN hW hjs hlk) ok_Taking_isShut rfl t7 (by decide) rfl lk_Taking_156 rfl rfl (Nat.zero_le _) (Nat.le_of_ble_eq_true rfl) (Nat.le_of_ble_eq_true rfl) (Nat.zero_le _) (Nat.zero_le _) dX8_judgeKind_60 (sp_kI fun v60 m60 hp60 => ?_)
            obtain ⟨hp60, hp60m⟩ := hp60; replace hp60m := (hp60m).symm; subst hp60m
            refine sp_if_eq X (pc := 63) (tgt := 69) dX8_judgeKind_63 (by decide) (fun hb63 => ?_) (fun hb63 => ?_)
            · have hup : ∀ v al sh dd, _ → pu_jk R n T (pu_tp R TT) (pu_tf R TT) kd tg ou f lk th v al sh dd := fun v al sh dd h => Or.inr ⟨hb5, Or.inr ⟨hnf, Or.inr ⟨hp50.eq hb53, Or.inr ⟨hp60.eq hb63, h⟩⟩⟩⟩
              refine sp_aload_n X (pc := 69) (r := some e) dX8_judgeKind_69 rfl rfl ?_
              refine sp_getfield X (pc := 70) (c := 3) (i := 0) (t := 0) (a := e) (v := .int kd) rfl (by first | assumption | omega) (by decide) rfl (congrArg Value.int hkd) fl_Taking_173 dX8_judgeKind_70 ?_
              refine sp_iconst X (pc := 73) (v := 2) dX8_judgeKind_73 (by decide) ?_
              refine sp_icmp_ne X (pc := 74) (tgt := 133) dX8_judgeKind_74 (by decide) (fun hb74 => ?_) (fun hb74 => ?_)
              · refine sp_aload_n X (pc := 133) (r := some e) dX8_judgeKind_133 rfl rfl ?_
                refine sp_getfield X (pc := 134) (c := 3) (i := 0) (t := 0) (a := e) (v := .int kd) rfl (by first | assumption | omega) (by decide) rfl (congrArg Value.int hkd) fl_Taking_173 dX8_judgeKind_134 ?_
                refine sp_iconst X (pc := 137) (v := 3) dX8_judgeKind_137 (by decide) ?_
                refine sp_icmp_ne X (pc := 138) (tgt := 152) dX8_judgeKind_138 (by decide) (fun hb138 => ?_) (fun hb138 => ?_)
                · refine sp_iconst X (pc := 152) (v := 0) dX8_judgeKind_152 (by decide) ?_
                  refine sp_ireturn X (pc := 153) dX8_judgeKind_153 rfl ⟨_, rfl, ?_⟩
                  first
                    | (obtain ⟨k1, k2, al', sh', k3, k4, k5, o9, k6, k7⟩ := hp146
                       refine ⟨k1, k2, al', sh', 0, k3, k4, k5, hup _ _ _ _ (Or.inr (Or.inl ⟨hb138, o9, k6, ?_⟩))⟩
                       rcases k7 with k7 | ⟨j, q1, q2, q3, q4, q5⟩
                       · exact Or.inl k7
                       · exact Or.inr ⟨j, q1, q2, q3, q4, rfl, q5⟩)
                    | exact ⟨hI, sp_F.refl m A sp_Tj, none, none, 0, hjs, hz, hz2, hup _ _ _ _ (Or.inr (Or.inr ⟨hb74, hb138, rfl, rfl, rfl, rfl⟩))⟩
                · refine sp_aload_n X (pc := 141) (r := some (A 7)) dX8_judgeKind_141 rfl rfl ?_
                  refine sp_aload_n X (pc := 142) (r := some e) dX8_judgeKind_142 rfl rfl ?_
                  refine sp_getfield X (pc := 143) (c := 3) (i := 2) (t := 2) (a := e) (v := va_rf (some o)) rfl (by first | assumption | omega) (by decide) rfl (congrArg va_rf ho1) fl_Taking_183 dX8_judgeKind_143 ?_
                  refine sp_callV X (pc := 146) (mc := 0) (ms := 0) (b := (A 7)) (c := 9) (r := some (A 7)) (As := [va_rf (some o)]) (rest := []) (c_Taking_judgeSharing l G _ hG hI hN hW hcR hjs hth hpto hpvo hBT) ok_Taking_judgeSharing rfl t7 (by decide) rfl lk_Taking_195 rfl rfl (Nat.zero_le _) (Nat.le_of_ble_eq_true rfl) (Nat.le_of_ble_eq_true rfl) (Nat.zero_le _) (Nat.zero_le _) dX8_judgeKind_146 (sp_kI fun v146 m146 hp146 => ?_)
                  refine sp_goto X (pc := 149) (tgt := 153) dX8_judgeKind_149 (by decide) ?_
                  refine sp_ireturn X (pc := 153) dX8_judgeKind_153 rfl ⟨_, rfl, ?_⟩
                  first
                    | (obtain ⟨k1, k2, al', sh', k3, k4, k5, o9, k6, k7⟩ := hp146
                       refine ⟨k1, k2, al', sh', 0, k3, k4, k5, hup _ _ _ _ (Or.inr (Or.inl ⟨hb138, o9, k6, ?_⟩))⟩
                       rcases k7 with k7 | ⟨j, q1, q2, q3, q4, q5⟩
                       · exact Or.inl k7
                       · exact Or.inr ⟨j, q1, q2, q3, q4, rfl, q5⟩)
                    | exact ⟨hI, sp_F.refl m A sp_Tj, none, none, 0, hjs, hz, hz2, hup _ _ _ _ (Or.inr (Or.inr ⟨hb74, hb138, rfl, rfl, rfl, rfl⟩))⟩
              · have h2k := h2 hb74
                refine sp_aload_n X (pc := 77) (r := some (A 7)) dX8_judgeKind_77 rfl rfl ?_
                refine sp_aload_n X (pc := 78) (r := some (A 7)) dX8_judgeKind_78 rfl rfl ?_
                refine sp_getfield X (pc := 79) (c := 9) (i := 2) (t := 2) (a := (A 7)) (v := va_rf (some (A 6))) rfl (by first | assumption | omega) (by decide) rfl (congrArg va_rf (hS.p 578 7 6 (by decide))) fl_Taking_19 dX8_judgeKind_79 ?_
                refine sp_aload_n X (pc := 82) (r := some e) dX8_judgeKind_82 rfl rfl ?_
                refine sp_getfield X (pc := 83) (c := 3) (i := 2) (t := 2) (a := e) (v := va_rf (some o)) rfl (by first | assumption | omega) (by decide) rfl (congrArg va_rf ho1) fl_Taking_183 dX8_judgeKind_83 ?_
                refine sp_aload_n X (pc := 86) (r := some (A 7)) dX8_judgeKind_86 rfl rfl ?_
                refine sp_getfield X (pc := 87) (c := 9) (i := 8) (t := 2) (a := (A 7)) (v := va_rf (some (NA f))) rfl (by first | assumption | omega) (by decide) rfl (congrArg va_rf hjs.1.1) fl_Taking_54 dX8_judgeKind_87 ?_
                refine sp_aload_n X (pc := 90) (r := some (A 7)) dX8_judgeKind_90 rfl rfl ?_
                refine sp_getfield X (pc := 91) (c := 9) (i := 9) (t := 0) (a := (A 7)) (v := .int (nI lk)) rfl (by first | assumption | omega) (by decide) rfl (congrArg Value.int hjs.2.1) fl_Taking_57 dX8_judgeKind_91 ?_
                refine sp_callV X (pc := 94) (mc := 6810 - m.ln e15) (ms := 4 * (6810 - m.ln e15)) (b := (A 6)) (c := 11) (r := (some (A 6))) (As := [va_rf (some o), va_rf (some (NA f)), .int (nI lk)]) (rest := [va_rf (some (A 7))]) (c_Walk_goThrough l G _ hG hI hN hW hcR.2.1 hTT hpto hpvo h2k.2.1 hjs.1.2 hlk hli15) ok_Walk_goThrough rfl t6 (by decide) rfl lk_Taking_186 rfl rfl (by simp [sp_cat_rf, sp_cat_i, sp_cat_l]) (Nat.le_of_ble_eq_true rfl) (Nat.le_of_ble_eq_true rfl) (by omega) (by omega) dX8_judgeKind_94 (sp_kI fun v94 m94 hp94 => ?_)
                obtain ⟨k1, k2, ff, k5, k6⟩ := hp94
                have hS94 := k1.S
                have v7 := hS94.k 7 10 (by decide)
                have v0 := hS94.k 0 9 (by decide)
                have k3 : sp_F m m94 A sp_Tj := (sp_F.refl m A sp_Tj).trans k2 sp_15.j
                have js94 := hjs.F (hI.lt 7 10 (by decide) (by decide)) k2 (by unfold sp_15; decide)
                have c94 := hcR.F hI k2
                have k7 : (pu_tf R TT tg ∧ ff = 0) ∨ (¬ pu_tf R TT tg ∧ ff = f) := k5.imp (fun z => ⟨h2k.2.2.ne z.1, z.2⟩) (fun z => ⟨h2k.2.2.eq z.1, z.2⟩)
                rw [h2k.1] at k6
                refine sp_iconst X (pc := 97) (v := (-1)) dX8_judgeKind_97 (by decide) ?_
                refine sp_icmp_ne X (pc := 98) (tgt := 105) dX8_judgeKind_98 (by decide) (fun hb98 => ?_) (fun hb98 => ?_)
                · refine sp_iconst X (pc := 105) (v := 0) dX8_judgeKind_105 (by decide) ?_
                  refine sp_putI X (pc := 106) (c := 9) (i := 13) (q := 589) (a := (A 7)) rfl (by first | assumption | omega) (by decide) rfl rfl (Or.inl rfl) ⟨rfl, rfl⟩ fl_Taking_70 dX8_judgeKind_106 ?_
                  refine sp_aload_n X (pc := 109) (r := some (A 7)) dX8_judgeKind_109 rfl rfl ?_
                  refine sp_getfield X (pc := 110) (c := 9) (i := 13) (t := 0) (a := (A 7)) (v := .int 0) rfl (by first | assumption | omega) (by decide) rfl (by simp [sp_fv, sp_pI_nx, sp_pI_ty, sp_pI_ln, sp_pI_fI, sp_pI_fL, sp_pI_fR, sp_pI_aI, sp_pI_aL, sp_pI_aR, sp_pL_nx, sp_pL_ty, sp_pL_ln, sp_pL_fI, sp_pL_fL, sp_pL_fR, sp_pL_aI, sp_pL_aL, sp_pL_aR, sp_pR_nx, sp_pR_ty, sp_pR_ln, sp_pR_fI, sp_pR_fL, sp_pR_fR, sp_pR_aI, sp_pR_aL, sp_pR_aR, sp_sI_nx, sp_sI_ty, sp_sI_ln, sp_sI_fI, sp_sI_fL, sp_sI_fR, sp_sI_aI, sp_sI_aL, sp_sI_aR, sp_sL_nx, sp_sL_ty, sp_sL_ln, sp_sL_fI, sp_sL_fL, sp_sL_fR, sp_sL_aI, sp_sL_aL, sp_sL_aR, sp_sR_nx, sp_sR_ty, sp_sR_ln, sp_sR_fI, sp_sR_fL, sp_sR_fR, sp_sR_aI, sp_sR_aL, sp_sR_aR, sp_newO_nx, sp_newA_nx, sp_newO_ty, sp_newA_ty, sp_newO_ln, sp_newA_ln, sp_newO_fI, sp_newA_fI, sp_newO_fL, sp_newA_fL, sp_newO_fR, sp_newA_fR, sp_newO_aI, sp_newA_aI, sp_newO_aL, sp_newA_aL, sp_newO_aR, sp_newA_aR]) fl_Taking_70 dX8_judgeKind_110 ?_
                  refine sp_if_eq X (pc := 113) (tgt := 131) dX8_judgeKind_113 (by decide) (fun hb113 => ?_) (fun hb113 => ?_)
                  · refine sp_iconst X (pc := 131) (v := 0) dX8_judgeKind_131 (by decide) ?_
                    refine sp_ireturn X (pc := 132) dX8_judgeKind_132 rfl ⟨_, rfl, ?_⟩
                    first
                      | exact absurd rfl hb113
                      | exact absurd hb113 (show ¬ (1 : Int32) = 0 by decide)
                      | exact ⟨k1.dead (Or.inl rfl), k3.pI (by unfold sp_Tj; decide) (by decide), none, none, 0, js94.g 0, hz, hz2, hup _ _ _ _ (Or.inl ⟨hb74, ff, _, k7, k6, Or.inr (Or.inr ⟨hb98, rfl, rfl, rfl, rfl⟩)⟩)⟩
                      | exact ⟨k1.dead (Or.inr rfl), k3.pI (by unfold sp_Tj; decide) (by decide), none, none, 1, js94.g 1, hz, hz2, hup _ _ _ _ (Or.inl ⟨hb74, ff, _, k7, k6, Or.inr (Or.inl ⟨hb98, c94.2.2.1.mp hb123, rfl, rfl, rfl, rfl⟩)⟩)⟩
                      | exact ⟨k1.dead (Or.inr rfl), k3.pI (by unfold sp_Tj; decide) (by decide), none, none, 1, js94.g 1, hz, hz2, hup _ _ _ _ (Or.inl ⟨hb74, ff, _, k7, k6, Or.inl ⟨hb98, Classical.byContradiction fun z => (c94.2.2.1.mpr z) hb123, rfl⟩⟩)⟩
                  · refine sp_aload_n X (pc := 116) (r := some (A 7)) dX8_judgeKind_116 rfl rfl ?_
                    refine sp_getfield X (pc := 117) (c := 9) (i := 0) (t := 2) (a := (A 7)) (v := va_rf (some (A 0))) rfl (by first | assumption | omega) (by decide) rfl (congrArg va_rf (hS94.p 576 7 0 (by decide))) fl_Taking_9 dX8_judgeKind_117 ?_
                    refine sp_getfield X (pc := 120) (c := 8) (i := 2) (t := 0) (a := (A 0)) (v := .int (m94.fI 514 (A 0))) rfl (by first | assumption | omega) (by decide) rfl rfl fl_Taking_192 dX8_judgeKind_120 ?_
                    refine sp_if_ne X (pc := 123) (tgt := 131) dX8_judgeKind_123 (by decide) (fun hb123 => ?_) (fun hb123 => ?_)
                    · refine sp_iconst X (pc := 131) (v := 0) dX8_judgeKind_131 (by decide) ?_
                      refine sp_ireturn X (pc := 132) dX8_judgeKind_132 rfl ⟨_, rfl, ?_⟩
                      first
                        | exact absurd rfl hb113
                        | exact absurd hb113 (show ¬ (1 : Int32) = 0 by decide)
                        | exact ⟨k1.dead (Or.inl rfl), k3.pI (by unfold sp_Tj; decide) (by decide), none, none, 0, js94.g 0, hz, hz2, hup _ _ _ _ (Or.inl ⟨hb74, ff, _, k7, k6, Or.inr (Or.inr ⟨hb98, rfl, rfl, rfl, rfl⟩)⟩)⟩
                        | exact ⟨k1.dead (Or.inr rfl), k3.pI (by unfold sp_Tj; decide) (by decide), none, none, 1, js94.g 1, hz, hz2, hup _ _ _ _ (Or.inl ⟨hb74, ff, _, k7, k6, Or.inr (Or.inl ⟨hb98, c94.2.2.1.mp hb123, rfl, rfl, rfl, rfl⟩)⟩)⟩
                        | exact ⟨k1.dead (Or.inr rfl), k3.pI (by unfold sp_Tj; decide) (by decide), none, none, 1, js94.g 1, hz, hz2, hup _ _ _ _ (Or.inl ⟨hb74, ff, _, k7, k6, Or.inl ⟨hb98, Classical.byContradiction fun z => (c94.2.2.1.mpr z) hb123, rfl⟩⟩)⟩
                    · refine sp_bipush X (pc := 126) (v := (-18)) dX8_judgeKind_126 (by decide) ?_
                      refine sp_goto X (pc := 128) (tgt := 132) dX8_judgeKind_128 (by decide) ?_
                      refine sp_ireturn X (pc := 132) dX8_judgeKind_132 rfl ⟨_, rfl, ?_⟩
                      first
                        | exact absurd rfl hb113
                        | exact absurd hb113 (show ¬ (1 : Int32) = 0 by decide)
                        | exact ⟨k1.dead (Or.inl rfl), k3.pI (by unfold sp_Tj; decide) (by decide), none, none, 0, js94.g 0, hz, hz2, hup _ _ _ _ (Or.inl ⟨hb74, ff, _, k7, k6, Or.inr (Or.inr ⟨hb98, rfl, rfl, rfl, rfl⟩)⟩)⟩
                        | exact ⟨k1.dead (Or.inr rfl), k3.pI (by unfold sp_Tj; decide) (by decide), none, none, 1, js94.g 1, hz, hz2, hup _ _ _ _ (Or.inl ⟨hb74, ff, _, k7, k6, Or.inr (Or.inl ⟨hb98, c94.2.2.1.mp hb123, rfl, rfl, rfl, rfl⟩)⟩)⟩
                        | exact ⟨k1.dead (Or.inr rfl), k3.pI (by unfold sp_Tj; decide) (by decide), none, none, 1, js94.g 1, hz, hz2, hup _ _ _ _ (Or.inl ⟨hb74, ff, _, k7, k6, Or.inl ⟨hb98, Classical.byContradiction fun z => (c94.2.2.1.mpr z) hb123, rfl⟩⟩)⟩
                · refine sp_iconst X (pc := 101) (v := 1) dX8_judgeKind_101 (by decide) ?_
                  refine sp_goto X (pc := 102) (tgt := 106) dX8_judgeKind_102 (by decide) ?_
                  refine sp_putI X (pc := 106) (c := 9) (i := 13) (q := 589) (a := (A 7)) rfl (by first | assumption | omega) (by decide) rfl rfl (Or.inl rfl) ⟨rfl, rfl⟩ fl_Taking_70 dX8_judgeKind_106 ?_
                  refine sp_aload_n X (pc := 109) (r := some (A 7)) dX8_judgeKind_109 rfl rfl ?_
                  refine sp_getfield X (pc := 110) (c := 9) (i := 13) (t := 0) (a := (A 7)) (v := .int 1) rfl (by first | assumption | omega) (by decide) rfl (by simp [sp_fv, sp_pI_nx, sp_pI_ty, sp_pI_ln, sp_pI_fI, sp_pI_fL, sp_pI_fR, sp_pI_aI, sp_pI_aL, sp_pI_aR, sp_pL_nx, sp_pL_ty, sp_pL_ln, sp_pL_fI, sp_pL_fL, sp_pL_fR, sp_pL_aI, sp_pL_aL, sp_pL_aR, sp_pR_nx, sp_pR_ty, sp_pR_ln, sp_pR_fI, sp_pR_fL, sp_pR_fR, sp_pR_aI, sp_pR_aL, sp_pR_aR, sp_sI_nx, sp_sI_ty, sp_sI_ln, sp_sI_fI, sp_sI_fL, sp_sI_fR, sp_sI_aI, sp_sI_aL, sp_sI_aR, sp_sL_nx, sp_sL_ty, sp_sL_ln, sp_sL_fI, sp_sL_fL, sp_sL_fR, sp_sL_aI, sp_sL_aL, sp_sL_aR, sp_sR_nx, sp_sR_ty, sp_sR_ln, sp_sR_fI, sp_sR_fL, sp_sR_fR, sp_sR_aI, sp_sR_aL, sp_sR_aR, sp_newO_nx, sp_newA_nx, sp_newO_ty, sp_newA_ty, sp_newO_ln, sp_newA_ln, sp_newO_fI, sp_newA_fI, sp_newO_fL, sp_newA_fL, sp_newO_fR, sp_newA_fR, sp_newO_aI, sp_newA_aI, sp_newO_aL, sp_newA_aL, sp_newO_aR, sp_newA_aR]) fl_Taking_70 dX8_judgeKind_110 ?_
                  refine sp_if_eq X (pc := 113) (tgt := 131) dX8_judgeKind_113 (by decide) (fun hb113 => ?_) (fun hb113 => ?_)
                  · refine sp_iconst X (pc := 131) (v := 0) dX8_judgeKind_131 (by decide) ?_
                    refine sp_ireturn X (pc := 132) dX8_judgeKind_132 rfl ⟨_, rfl, ?_⟩
                    first
                      | exact absurd rfl hb113
                      | exact absurd hb113 (show ¬ (1 : Int32) = 0 by decide)
                      | exact ⟨k1.dead (Or.inl rfl), k3.pI (by unfold sp_Tj; decide) (by decide), none, none, 0, js94.g 0, hz, hz2, hup _ _ _ _ (Or.inl ⟨hb74, ff, _, k7, k6, Or.inr (Or.inr ⟨hb98, rfl, rfl, rfl, rfl⟩)⟩)⟩
                      | exact ⟨k1.dead (Or.inr rfl), k3.pI (by unfold sp_Tj; decide) (by decide), none, none, 1, js94.g 1, hz, hz2, hup _ _ _ _ (Or.inl ⟨hb74, ff, _, k7, k6, Or.inr (Or.inl ⟨hb98, c94.2.2.1.mp hb123, rfl, rfl, rfl, rfl⟩)⟩)⟩
                      | exact ⟨k1.dead (Or.inr rfl), k3.pI (by unfold sp_Tj; decide) (by decide), none, none, 1, js94.g 1, hz, hz2, hup _ _ _ _ (Or.inl ⟨hb74, ff, _, k7, k6, Or.inl ⟨hb98, Classical.byContradiction fun z => (c94.2.2.1.mpr z) hb123, rfl⟩⟩)⟩
                  · refine sp_aload_n X (pc := 116) (r := some (A 7)) dX8_judgeKind_116 rfl rfl ?_
                    refine sp_getfield X (pc := 117) (c := 9) (i := 0) (t := 2) (a := (A 7)) (v := va_rf (some (A 0))) rfl (by first | assumption | omega) (by decide) rfl (congrArg va_rf (hS94.p 576 7 0 (by decide))) fl_Taking_9 dX8_judgeKind_117 ?_
                    refine sp_getfield X (pc := 120) (c := 8) (i := 2) (t := 0) (a := (A 0)) (v := .int (m94.fI 514 (A 0))) rfl (by first | assumption | omega) (by decide) rfl rfl fl_Taking_192 dX8_judgeKind_120 ?_
                    refine sp_if_ne X (pc := 123) (tgt := 131) dX8_judgeKind_123 (by decide) (fun hb123 => ?_) (fun hb123 => ?_)
                    · refine sp_iconst X (pc := 131) (v := 0) dX8_judgeKind_131 (by decide) ?_
                      refine sp_ireturn X (pc := 132) dX8_judgeKind_132 rfl ⟨_, rfl, ?_⟩
                      first
                        | exact absurd rfl hb113
                        | exact absurd hb113 (show ¬ (1 : Int32) = 0 by decide)
                        | exact ⟨k1.dead (Or.inl rfl), k3.pI (by unfold sp_Tj; decide) (by decide), none, none, 0, js94.g 0, hz, hz2, hup _ _ _ _ (Or.inl ⟨hb74, ff, _, k7, k6, Or.inr (Or.inr ⟨hb98, rfl, rfl, rfl, rfl⟩)⟩)⟩
                        | exact ⟨k1.dead (Or.inr rfl), k3.pI (by unfold sp_Tj; decide) (by decide), none, none, 1, js94.g 1, hz, hz2, hup _ _ _ _ (Or.inl ⟨hb74, ff, _, k7, k6, Or.inr (Or.inl ⟨hb98, c94.2.2.1.mp hb123, rfl, rfl, rfl, rfl⟩)⟩)⟩
                        | exact ⟨k1.dead (Or.inr rfl), k3.pI (by unfold sp_Tj; decide) (by decide), none, none, 1, js94.g 1, hz, hz2, hup _ _ _ _ (Or.inl ⟨hb74, ff, _, k7, k6, Or.inl ⟨hb98, Classical.byContradiction fun z => (c94.2.2.1.mpr z) hb123, rfl⟩⟩)⟩
                    · refine sp_bipush X (pc := 126) (v := (-18)) dX8_judgeKind_126 (by decide) ?_
                      refine sp_goto X (pc := 128) (tgt := 132) dX8_judgeKind_128 (by decide) ?_
                      refine sp_ireturn X (pc := 132) dX8_judgeKind_132 rfl ⟨_, rfl, ?_⟩
                      first
                        | exact absurd rfl hb113
                        | exact absurd hb113 (show ¬ (1 : Int32) = 0 by decide)
                        | exact ⟨k1.dead (Or.inl rfl), k3.pI (by unfold sp_Tj; decide) (by decide), none, none, 0, js94.g 0, hz, hz2, hup _ _ _ _ (Or.inl ⟨hb74, ff, _, k7, k6, Or.inr (Or.inr ⟨hb98, rfl, rfl, rfl, rfl⟩)⟩)⟩
                        | exact ⟨k1.dead (Or.inr rfl), k3.pI (by unfold sp_Tj; decide) (by decide), none, none, 1, js94.g 1, hz, hz2, hup _ _ _ _ (Or.inl ⟨hb74, ff, _, k7, k6, Or.inr (Or.inl ⟨hb98, c94.2.2.1.mp hb123, rfl, rfl, rfl, rfl⟩)⟩)⟩
                        | exact ⟨k1.dead (Or.inr rfl), k3.pI (by unfold sp_Tj; decide) (by decide), none, none, 1, js94.g 1, hz, hz2, hup _ _ _ _ (Or.inl ⟨hb74, ff, _, k7, k6, Or.inl ⟨hb98, Classical.byContradiction fun z => (c94.2.2.1.mpr z) hb123, rfl⟩⟩)⟩
            · refine sp_bipush X (pc := 66) (v := (-16)) dX8_judgeKind_66 (by decide) ?_
              refine sp_ireturn X (pc := 68) dX8_judgeKind_68 rfl ⟨_, rfl, ?_⟩
              exact ⟨hI, sp_F.refl m A sp_Tj, none, none, 0, hjs, hz, hz2, Or.inr ⟨hb5, Or.inr ⟨hnf, Or.inr ⟨hp50.eq hb53, Or.inl ⟨(hp60.ne hb63).1, (hp60.ne hb63).2, rfl⟩⟩⟩⟩⟩
          · refine sp_bipush X (pc := 56) (v := (-17)) dX8_judgeKind_56 (by decide) ?_
            refine sp_ireturn X (pc := 58) dX8_judgeKind_58 rfl ⟨_, rfl, ?_⟩
            exact ⟨hI, sp_F.refl m A sp_Tj, none, none, 0, hjs, hz, hz2, Or.inr ⟨hb5, Or.inr ⟨hnf, Or.inl ⟨hp50.ne hb53, rfl⟩⟩⟩⟩
        · have hk0 : T.k j = 0 := hfd.mp (Classical.byContradiction fun z => hb32 (if_neg z))
          refine sp_aload_n X (pc := 35) (r := some (A 7)) dX8_judgeKind_35 rfl rfl ?_
          refine sp_aload_n X (pc := 36) (r := some (A 7)) dX8_judgeKind_36 rfl rfl ?_
          refine sp_getfield X (pc := 37) (c := 9) (i := 10) (t := 2) (a := (A 7)) (v := va_rf (some (NA j))) rfl (by first | assumption | omega) (by decide) rfl (congrArg va_rf hb22) fl_Taking_60 dX8_judgeKind_37 ?_
          refine sp_putR X (pc := 40) (c := 9) (i := 11) (q := 587) (a := (A 7)) rfl (by first | assumption | omega) (by decide) rfl rfl (Or.inl rfl)  fl_Taking_63 dX8_judgeKind_40 ?_
          refine sp_iconst X (pc := 43) (v := 0) dX8_judgeKind_43 (by decide) ?_
          refine sp_ireturn X (pc := 44) dX8_judgeKind_44 rfl ⟨_, rfl, ?_⟩
          exact ⟨hI.pR (by decide) (fun x hx => by cases hx; rw [if_neg (by decide)]; exact hnt) (fun z => by omega), (sp_F.refl m A sp_Tj).pR (by unfold sp_Tj; decide) (by decide), some j, none, 0, hjs.d (some j), fun i z => by cases z; exact hjn, hz2, Or.inr ⟨hb5, Or.inl ⟨hb15, ⟨j, hj, hk0⟩, rfl, hj.symm, rfl, rfl⟩⟩⟩
  · refine sp_bipush X (pc := 8) (v := (-20)) dX8_judgeKind_8 (by decide) ?_
    refine sp_ireturn X (pc := 10) dX8_judgeKind_10 rfl ⟨_, rfl, ?_⟩
    exact ⟨hI, sp_F.refl m A sp_Tj, none, none, 0, hjs, hz, hz2, Or.inl ⟨hb5, rfl⟩⟩
set_option maxRecDepth 20000 in
theorem c_Taking_judgeLimits (l : Launch) (G : sp_G) (m : sp_M) {P : Nat → Prop} {A : Nat → Nat} (hG : sp_GS G) (hI : sp_I G P A m) {R : Int32} {TT : Nat → List Int32} {n nb0 nt0 : Nat} {T : pu_N} {NA BA : Nat → Nat} (hN : sp_cN G m A R TT n T NA BA) (hW : pu_W n nb0 nt0 T) {f lk : Nat} {th al sh : Option Nat} {dd : Int32} (hjs : sp_js m A NA BA n f lk th al sh dd) (hlk : lk ≤ 100) {e md : Nat} {kd : Int32} (he : m.ty e = 4) (hkd : m.fI 192 e = kd) (hmd : m.fI 582 (A 7) = nI md) (hmd2 : md ≤ 1000) : sp_C l G M_Taking_judgeLimits 0 0 [.ref (A 7), .ref e] m (sp_oI fun v m' => pu_lm n md lk kd (m.fL 196 e) (m.fL 583 (A 7)) (m.fL 580 (A 7)) (m.fL 581 (A 7)) v ∧ m' = m) := by
  refine sp_enter (lv0 := [(0, false, va_rf (some (A 7))), (1, false, va_rf (some e))]) "SafePaths$Taking" false rfl (by decide) (fun h => by cases h) (Nat.le_of_ble_eq_true rfl) rfl ?_
  intro w X
  have hS := hI.S
  have t5 := hS.k 5 11 (by decide)
  have t7 := hS.k 7 10 (by decide)
  obtain ⟨⟨e9, l9, el9⟩, -, -⟩ := id hN
  have h200 := hW.1.2
  refine sp_aload_n X (pc := 0) (r := some (A 7)) dX8_judgeLimits_0 rfl rfl ?_
  refine sp_getfield X (pc := 1) (c := 9) (i := 9) (t := 0) (a := (A 7)) (v := .int (nI lk)) rfl (by first | assumption | omega) (by decide) rfl (congrArg Value.int hjs.2.1) fl_Taking_57 dX8_judgeLimits_1 ?_
  refine sp_iconst X (pc := 4) (v := 1) dX8_judgeLimits_4 (by decide) ?_
  refine sp_iadd X (pc := 5) dX8_judgeLimits_5 ?_
  rw [show ((nI lk) + 1) = nI (lk + 1) from nI_1 lk]
  refine sp_istore_n X (pc := 6) (lv' := [(2, false, .int (nI (lk + 1))), (0, false, va_rf (some (A 7))), (1, false, va_rf (some e))]) dX8_judgeLimits_6 rfl (by decide) rfl ?_
  refine sp_aload_n X (pc := 7) (r := some (A 7)) dX8_judgeLimits_7 rfl rfl ?_
  refine sp_getfield X (pc := 8) (c := 9) (i := 6) (t := 0) (a := (A 7)) (v := .int (nI md)) rfl (by first | assumption | omega) (by decide) rfl (congrArg Value.int hmd) fl_Taking_41 dX8_judgeLimits_8 ?_
  refine sp_iload_n X (pc := 11) (x := nI (lk + 1)) dX8_judgeLimits_11 rfl rfl ?_
  refine sp_iadd X (pc := 12) dX8_judgeLimits_12 ?_
  rw [show ((nI md) + (nI (lk + 1))) = nI (md + (lk + 1)) from nI_add md (lk + 1)]
  refine sp_i2l X (pc := 13) dX8_judgeLimits_13 ?_
  refine sp_aload_n X (pc := 14) (r := some (A 7)) dX8_judgeLimits_14 rfl rfl ?_
  refine sp_getfield X (pc := 15) (c := 9) (i := 4) (t := 1) (a := (A 7)) (v := .long (m.fL 580 (A 7))) rfl (by first | assumption | omega) (by decide) rfl rfl fl_Taking_32 dX8_judgeLimits_15 ?_
  refine sp_lcmp X (pc := 18) dX8_judgeLimits_18 ?_
  refine sp_if_le X (pc := 19) (tgt := 25) dX8_judgeLimits_19 (by decide) (fun hb19 => ?_) (fun hb19 => ?_)
  · refine sp_aload_n X (pc := 25) (r := some e) dX8_judgeLimits_25 rfl rfl ?_
    refine sp_getfield X (pc := 26) (c := 3) (i := 0) (t := 0) (a := e) (v := .int kd) rfl (by first | assumption | omega) (by decide) rfl (congrArg Value.int hkd) fl_Taking_173 dX8_judgeLimits_26 ?_
    refine sp_iconst X (pc := 29) (v := 1) dX8_judgeLimits_29 (by decide) ?_
    refine sp_icmp_ne X (pc := 30) (tgt := 53) dX8_judgeLimits_30 (by decide) (fun hb30 => ?_) (fun hb30 => ?_)
    · have hk1 : kd = 1 → m.fL 583 (A 7) + m.fL 196 e ≤ m.fL 581 (A 7) := fun z => absurd z hb30
      refine sp_aload_n X (pc := 53) (r := some (A 7)) dX8_judgeLimits_53 rfl rfl ?_
      refine sp_getfield X (pc := 54) (c := 9) (i := 1) (t := 2) (a := (A 7)) (v := va_rf (some (A 5))) rfl (by first | assumption | omega) (by decide) rfl (congrArg va_rf (hS.p 577 7 5 (by decide))) fl_Taking_15 dX8_judgeLimits_54 ?_
      refine sp_callV X (pc := 57) (mc := 0) (ms := 0) (b := (A 5)) (c := 10) (r := (some (A 5))) (As := []) (rest := []) (c_Tree_nodeCount l G _ hI.tr) ok_Tree_nodeCount rfl t5 (by decide) rfl lk_Taking_204 rfl rfl (Nat.zero_le _) (Nat.le_of_ble_eq_true rfl) (Nat.le_of_ble_eq_true rfl) (Nat.zero_le _) (Nat.zero_le _) dX8_judgeLimits_57 (sp_kI fun v57 m57 hp57 => ?_)
      obtain ⟨hp57v, hp57⟩ := hp57; replace hp57 := (hp57).symm; subst hp57; replace hp57v := (hp57v).symm; subst hp57v
      rw [l9.2.2.1]
      refine sp_iload_n X (pc := 60) (x := nI (lk + 1)) dX8_judgeLimits_60 rfl rfl ?_
      refine sp_iadd X (pc := 61) dX8_judgeLimits_61 ?_
      rw [show ((nI n) + (nI (lk + 1))) = nI (n + (lk + 1)) from nI_add n (lk + 1)]
      refine sp_sipush X (pc := 62) (v := 200) dX8_judgeLimits_62 (by decide) ?_
      refine sp_icmp_le X (pc := 65) (tgt := 73) dX8_judgeLimits_65 (by decide) (fun hb65 => ?_) (fun hb65 => ?_)
      · have h9 : n + (lk + 1) ≤ 200 := (nI_leI (b := 200) (by omega) (by omega)).mp hb65
        refine sp_iconst X (pc := 73) (v := 0) dX8_judgeLimits_73 (by decide) ?_
        refine sp_ireturn X (pc := 74) dX8_judgeLimits_74 rfl ⟨_, rfl, ?_⟩
        first | exact ⟨Or.inr ⟨⟨pu_cle hb19, hk1⟩, Or.inr ⟨h9, rfl⟩⟩, rfl⟩ | exact ⟨Or.inr ⟨⟨pu_cle hb19, hk1⟩, Or.inl ⟨h9, rfl⟩⟩, rfl⟩
      · have h9 : 200 < n + (lk + 1) := sp_nlt (a := 200) hb65 (by omega)
        refine sp_bipush X (pc := 68) (v := (-6)) dX8_judgeLimits_68 (by decide) ?_
        refine sp_goto X (pc := 70) (tgt := 74) dX8_judgeLimits_70 (by decide) ?_
        refine sp_ireturn X (pc := 74) dX8_judgeLimits_74 rfl ⟨_, rfl, ?_⟩
        first | exact ⟨Or.inr ⟨⟨pu_cle hb19, hk1⟩, Or.inr ⟨h9, rfl⟩⟩, rfl⟩ | exact ⟨Or.inr ⟨⟨pu_cle hb19, hk1⟩, Or.inl ⟨h9, rfl⟩⟩, rfl⟩
    · refine sp_aload_n X (pc := 33) (r := some (A 7)) dX8_judgeLimits_33 rfl rfl ?_
      refine sp_getfield X (pc := 34) (c := 9) (i := 7) (t := 1) (a := (A 7)) (v := .long (m.fL 583 (A 7))) rfl (by first | assumption | omega) (by decide) rfl rfl fl_Taking_45 dX8_judgeLimits_34 ?_
      refine sp_aload_n X (pc := 37) (r := some e) dX8_judgeLimits_37 rfl rfl ?_
      refine sp_getfield X (pc := 38) (c := 3) (i := 4) (t := 1) (a := e) (v := .long (m.fL 196 e)) rfl (by first | assumption | omega) (by decide) rfl rfl fl_Taking_202 dX8_judgeLimits_38 ?_
      refine sp_ladd X (pc := 41) dX8_judgeLimits_41 ?_
      refine sp_aload_n X (pc := 42) (r := some (A 7)) dX8_judgeLimits_42 rfl rfl ?_
      refine sp_getfield X (pc := 43) (c := 9) (i := 5) (t := 1) (a := (A 7)) (v := .long (m.fL 581 (A 7))) rfl (by first | assumption | omega) (by decide) rfl rfl fl_Taking_38 dX8_judgeLimits_43 ?_
      refine sp_lcmp X (pc := 46) dX8_judgeLimits_46 ?_
      refine sp_if_le X (pc := 47) (tgt := 53) dX8_judgeLimits_47 (by decide) (fun hb47 => ?_) (fun hb47 => ?_)
      · have hk1 : kd = 1 → m.fL 583 (A 7) + m.fL 196 e ≤ m.fL 581 (A 7) := fun _ => pu_cle hb47
        refine sp_aload_n X (pc := 53) (r := some (A 7)) dX8_judgeLimits_53 rfl rfl ?_
        refine sp_getfield X (pc := 54) (c := 9) (i := 1) (t := 2) (a := (A 7)) (v := va_rf (some (A 5))) rfl (by first | assumption | omega) (by decide) rfl (congrArg va_rf (hS.p 577 7 5 (by decide))) fl_Taking_15 dX8_judgeLimits_54 ?_
        refine sp_callV X (pc := 57) (mc := 0) (ms := 0) (b := (A 5)) (c := 10) (r := (some (A 5))) (As := []) (rest := []) (c_Tree_nodeCount l G _ hI.tr) ok_Tree_nodeCount rfl t5 (by decide) rfl lk_Taking_204 rfl rfl (Nat.zero_le _) (Nat.le_of_ble_eq_true rfl) (Nat.le_of_ble_eq_true rfl) (Nat.zero_le _) (Nat.zero_le _) dX8_judgeLimits_57 (sp_kI fun v57 m57 hp57 => ?_)
        obtain ⟨hp57v, hp57⟩ := hp57; replace hp57 := (hp57).symm; subst hp57; replace hp57v := (hp57v).symm; subst hp57v
        rw [l9.2.2.1]
        refine sp_iload_n X (pc := 60) (x := nI (lk + 1)) dX8_judgeLimits_60 rfl rfl ?_
        refine sp_iadd X (pc := 61) dX8_judgeLimits_61 ?_
        rw [show ((nI n) + (nI (lk + 1))) = nI (n + (lk + 1)) from nI_add n (lk + 1)]
        refine sp_sipush X (pc := 62) (v := 200) dX8_judgeLimits_62 (by decide) ?_
        refine sp_icmp_le X (pc := 65) (tgt := 73) dX8_judgeLimits_65 (by decide) (fun hb65 => ?_) (fun hb65 => ?_)
        · have h9 : n + (lk + 1) ≤ 200 := (nI_leI (b := 200) (by omega) (by omega)).mp hb65
          refine sp_iconst X (pc := 73) (v := 0) dX8_judgeLimits_73 (by decide) ?_
          refine sp_ireturn X (pc := 74) dX8_judgeLimits_74 rfl ⟨_, rfl, ?_⟩
          first | exact ⟨Or.inr ⟨⟨pu_cle hb19, hk1⟩, Or.inr ⟨h9, rfl⟩⟩, rfl⟩ | exact ⟨Or.inr ⟨⟨pu_cle hb19, hk1⟩, Or.inl ⟨h9, rfl⟩⟩, rfl⟩
        · have h9 : 200 < n + (lk + 1) := sp_nlt (a := 200) hb65 (by omega)
          refine sp_bipush X (pc := 68) (v := (-6)) dX8_judgeLimits_68 (by decide) ?_
          refine sp_goto X (pc := 70) (tgt := 74) dX8_judgeLimits_70 (by decide) ?_
          refine sp_ireturn X (pc := 74) dX8_judgeLimits_74 rfl ⟨_, rfl, ?_⟩
          first | exact ⟨Or.inr ⟨⟨pu_cle hb19, hk1⟩, Or.inr ⟨h9, rfl⟩⟩, rfl⟩ | exact ⟨Or.inr ⟨⟨pu_cle hb19, hk1⟩, Or.inl ⟨h9, rfl⟩⟩, rfl⟩
      · refine sp_bipush X (pc := 50) (v := (-21)) dX8_judgeLimits_50 (by decide) ?_
        refine sp_ireturn X (pc := 52) dX8_judgeLimits_52 rfl ⟨_, rfl, ?_⟩
        exact ⟨Or.inl ⟨Or.inr ⟨hb30, pu_cgt hb47⟩, rfl⟩, rfl⟩
  · refine sp_bipush X (pc := 22) (v := (-21)) dX8_judgeLimits_22 (by decide) ?_
    refine sp_ireturn X (pc := 24) dX8_judgeLimits_24 rfl ⟨_, rfl, ?_⟩
    exact ⟨Or.inl ⟨Or.inl (pu_cgt hb19), rfl⟩, rfl⟩
set_option maxRecDepth 20000 in
theorem c_Taking_judge (l : Launch) (G : sp_G) (m : sp_M) {P : Nat → Prop} {A : Nat → Nat} (hG : sp_GS G) (hI : sp_I G P A m) {R : Int32} {TT : Nat → List Int32} {n nb0 nt0 : Nat} {T : pu_N} {NA BA : Nat → Nat} (hN : sp_cN G m A R TT n T NA BA) (hW : pu_W n nb0 nt0 T) (hcR : sp_cR m A R) (hTT : ∀ t, t < nt0 → (TT t).length ≤ 40) {e o on L9 ed9 n9 tg : Nat} {kd : Int32} {ou : List (List Int32)} (he : m.ty e = 4) (hkd : m.fI 192 e = kd) (ho1 : m.fR 194 e = some o) (hpto : sp_pt G m o L9 ed9 n9) (hpvo : sp_pv G m o on ou) (h2 : kd = 2 → ou = pu_tp R TT tg ∧ ou.length ≤ 20 ∧ sp_bo (m.fI 449 o) (pu_tf R TT tg)) {p pn L edp sp md : Nat} {us : List (List Int32)} (hp1 : m.fR 193 e = some p) (hptp : sp_pt G m p L edp sp) (hpvp : sp_pv G m p pn us) (hs1 : 1 ≤ us.length) (hs8 : us.length ≤ 8) (hBT : ∀ q, q < nb0 → m.ty (BA q) = 2) (hmd : m.fI 582 (A 7) = nI md) (hmd2 : md ≤ 1000) : sp_C l G M_Taking_judge 6810 27240 [.ref (A 7), .ref e] m (sp_oI fun v m' => sp_I G P A m' ∧ sp_F m m' A sp_Tj ∧ ∃ f lk th al sh dd, sp_js m' A NA BA n f lk th al sh dd ∧ lk ≤ 8 ∧ (∀ j, th = some j → j < n) ∧ (∀ j, al = some j → j < n) ∧ (∀ q, sh = some q → q < nb0) ∧ pu_jd R n T (pu_tp R TT) (pu_tf R TT) kd tg ou us (fun lk v => pu_lm n md lk kd (m.fL 196 e) (m.fL 583 (A 7)) (m.fL 580 (A 7)) (m.fL 581 (A 7)) v) v f lk th al sh dd) := by
  refine sp_enter (lv0 := [(0, false, va_rf (some (A 7))), (1, false, va_rf (some e))]) "SafePaths$Taking" false rfl (by decide) (fun h => by cases h) (Nat.le_of_ble_eq_true rfl) rfl ?_
  intro w X
  have hS := hI.S
  have t7 := hS.k 7 10 (by decide)
  have hel : e < m.nx := hI.wf e (by omega)
  have hsu := (hpvp.pt hptp).1
  have cut65 : ∀ (mm : sp_M) (x : Int32), sp_I G P A mm → sp_F m mm A sp_Tj → (∃ f lk th al sh dd, sp_js mm A NA BA n f lk th al sh dd ∧ lk ≤ 8 ∧ (∀ j, th = some j → j < n) ∧ (∀ j, al = some j → j < n) ∧ (∀ q, sh = some q → q < nb0) ∧ pu_jd R n T (pu_tp R TT) (pu_tf R TT) kd tg ou us (fun lk v => pu_lm n md lk kd (m.fL 196 e) (m.fL 583 (A 7)) (m.fL 580 (A 7)) (m.fL 581 (A 7)) v) x f lk th al sh dd) → w 0 0 mm 65 [(0, false, va_rf (some (A 7))), (1, false, va_rf (some e)), (2, false, .int x)] [] := by
    intro mm x I9 F9 h9
    refine sp_iload_n X (pc := 65) (x := x) dX8_judge_65 rfl rfl ?_
    refine sp_ireturn X (pc := 66) dX8_judge_66 rfl ⟨_, rfl, ?_⟩
    exact ⟨I9, F9, h9⟩
  have cut48 : ∀ (mm : sp_M) (x : Int32) (f lk : Nat) (th al sh : Option Nat) (dd : Int32), sp_I G P A mm → sp_F m mm A sp_Tj → sp_js mm A NA BA n f lk th al sh dd → lk ≤ 8 → (∀ j, th = some j → j < n) → (∀ j, al = some j → j < n) → (∀ q, sh = some q → q < nb0) → ((¬ x = 0 ∧ pu_jd R n T (pu_tp R TT) (pu_tf R TT) kd tg ou us (fun lk v => pu_lm n md lk kd (m.fL 196 e) (m.fL 583 (A 7)) (m.fL 580 (A 7)) (m.fL 581 (A 7)) v) x f lk th al sh dd) ∨ (x = 0 ∧ pu_wk R n T (¬ sp_hr R 32 = 0) 1 0 us (0, f, lk, th) ∧ pu_jk R n T (pu_tp R TT) (pu_tf R TT) kd tg ou f lk th 0 al sh dd)) → w 0 0 mm 48 [(0, false, va_rf (some (A 7))), (1, false, va_rf (some e)), (2, false, .int x)] [] := by
    intro mm x f lk th al sh dd I9 F9 jq hlk hth hal hsh hx
    have u7 := I9.S.k 7 10 (by decide)
    refine sp_iload_n X (pc := 48) (x := x) dX8_judge_48 rfl rfl ?_
    refine sp_if_ne X (pc := 49) (tgt := 65) dX8_judge_49 (by decide) (fun hb49 => ?_) (fun hb49 => ?_)
    · first
        | exact cut65 mm v61 I9 F9 ⟨f, lk, th, al, sh, dd, jq, hlk, hth, hal, hsh, by
            rcases hx with ⟨q1, -⟩ | ⟨q1, q2, q3⟩
            · exact absurd hb49 q1
            · refine ⟨_, q2, Or.inr ⟨rfl, 0, q3, Or.inr ⟨rfl, Or.inr ⟨?_, hp61⟩⟩⟩⟩
              have h7 := jq.2.2.2.1
              rw [hb56] at h7
              cases al with
              | none => rfl
              | some j => cases h7⟩
        | (have hn9 : ¬ x = 0 := hb49
           exact cut65 mm x I9 F9 ⟨f, lk, th, al, sh, dd, jq, hlk, hth, hal, hsh, by
            rcases hx with ⟨-, q2⟩ | ⟨q1, -⟩
            · exact q2
            · exact absurd q1 hn9⟩)
        | exact cut65 mm x I9 F9 ⟨f, lk, th, al, sh, dd, jq, hlk, hth, hal, hsh, by
            rcases hx with ⟨q1, -⟩ | ⟨q1, q2, q3⟩
            · exact absurd hb49 q1
            · refine ⟨_, q2, Or.inr ⟨rfl, 0, q3, Or.inr ⟨rfl, Or.inl ⟨fun z => ?_, q1⟩⟩⟩⟩
              have h7 := jq.2.2.2.1
              rw [hb56, z] at h7
              cases h7⟩
    · refine sp_aload_n X (pc := 52) (r := some (A 7)) dX8_judge_52 rfl rfl ?_
      refine sp_getfield X (pc := 53) (c := 9) (i := 11) (t := 2) (a := (A 7)) (v := va_rf (mm.fR 587 (A 7))) rfl u7 (by decide) rfl rfl fl_Taking_63 dX8_judge_53 ?_
      refine sp_ifnonnull X (pc := 56) (tgt := 65) dX8_judge_56 (by decide) (fun ra56 hb56 => ?_) (fun hb56 => ?_)
      · first
          | exact cut65 mm v61 I9 F9 ⟨f, lk, th, al, sh, dd, jq, hlk, hth, hal, hsh, by
              rcases hx with ⟨q1, -⟩ | ⟨q1, q2, q3⟩
              · exact absurd hb49 q1
              · refine ⟨_, q2, Or.inr ⟨rfl, 0, q3, Or.inr ⟨rfl, Or.inr ⟨?_, hp61⟩⟩⟩⟩
                have h7 := jq.2.2.2.1
                rw [hb56] at h7
                cases al with
                | none => rfl
                | some j => cases h7⟩
          | (have hn9 : ¬ x = 0 := hb49
             exact cut65 mm x I9 F9 ⟨f, lk, th, al, sh, dd, jq, hlk, hth, hal, hsh, by
              rcases hx with ⟨-, q2⟩ | ⟨q1, -⟩
              · exact q2
              · exact absurd q1 hn9⟩)
          | exact cut65 mm x I9 F9 ⟨f, lk, th, al, sh, dd, jq, hlk, hth, hal, hsh, by
              rcases hx with ⟨q1, -⟩ | ⟨q1, q2, q3⟩
              · exact absurd hb49 q1
              · refine ⟨_, q2, Or.inr ⟨rfl, 0, q3, Or.inr ⟨rfl, Or.inl ⟨fun z => ?_, q1⟩⟩⟩⟩
                have h7 := jq.2.2.2.1
                rw [hb56, z] at h7
                cases h7⟩
      · refine sp_aload_n X (pc := 59) (r := some (A 7)) dX8_judge_59 rfl rfl ?_
        refine sp_aload_n X (pc := 60) (r := some e) dX8_judge_60 rfl rfl ?_
        refine sp_callV X (pc := 61) (mc := 0) (ms := 0) (b := (A 7)) (c := 9) (r := some (A 7)) (As := [va_rf (some e)]) (rest := []) (c_Taking_judgeLimits l G _ hG I9 (hN.F hI F9 sp_Tj.n9 sp_Tj.n6 sp_Tj.n7) hW jq (by omega) (F9.ty hI.wf he (by decide)) ((F9.I hel (by decide) (by unfold sp_Tj; decide)).trans hkd) ((F9.I (hI.lt 7 10 (by decide) (by decide)) (by decide) (by unfold sp_Tj; decide)).trans hmd) hmd2) ok_Taking_judgeLimits rfl u7 (by decide) rfl lk_Taking_124 rfl rfl (Nat.zero_le _) (Nat.le_of_ble_eq_true rfl) (Nat.le_of_ble_eq_true rfl) (Nat.zero_le _) (Nat.zero_le _) dX8_judge_61 (sp_kI fun v61 m61 hp61 => ?_)
        obtain ⟨hp61, hp61m⟩ := hp61; replace hp61m := (hp61m).symm; subst hp61m
        rw [F9.L hel (fun z => absurd z (by decide)), F9.L (hI.lt 7 10 (by decide) (by decide)) (fun _ => by unfold sp_Tj; decide), F9.L (hI.lt 7 10 (by decide) (by decide)) (fun z => absurd z (by decide)), F9.L (hI.lt 7 10 (by decide) (by decide)) (fun z => absurd z (by decide))] at hp61
        refine sp_istore_n X (pc := 64) (lv' := [(2, false, .int v61), (0, false, va_rf (some (A 7))), (1, false, va_rf (some e))]) dX8_judge_64 rfl (by decide) rfl ?_
        refine sp_pick X [1, 2, 0] (lv' := [(0, false, va_rf (some (A 7))), (1, false, va_rf (some e)), (2, false, .int v61)]) rfl ?_
        first
          | exact cut65 mm v61 I9 F9 ⟨f, lk, th, al, sh, dd, jq, hlk, hth, hal, hsh, by
              rcases hx with ⟨q1, -⟩ | ⟨q1, q2, q3⟩
              · exact absurd hb49 q1
              · refine ⟨_, q2, Or.inr ⟨rfl, 0, q3, Or.inr ⟨rfl, Or.inr ⟨?_, hp61⟩⟩⟩⟩
                have h7 := jq.2.2.2.1
                rw [hb56] at h7
                cases al with
                | none => rfl
                | some j => cases h7⟩
          | (have hn9 : ¬ x = 0 := hb49
             exact cut65 mm x I9 F9 ⟨f, lk, th, al, sh, dd, jq, hlk, hth, hal, hsh, by
              rcases hx with ⟨-, q2⟩ | ⟨q1, -⟩
              · exact q2
              · exact absurd q1 hn9⟩)
          | exact cut65 mm x I9 F9 ⟨f, lk, th, al, sh, dd, jq, hlk, hth, hal, hsh, by
              rcases hx with ⟨q1, -⟩ | ⟨q1, q2, q3⟩
              · exact absurd hb49 q1
              · refine ⟨_, q2, Or.inr ⟨rfl, 0, q3, Or.inr ⟨rfl, Or.inl ⟨fun z => ?_, q1⟩⟩⟩⟩
                have h7 := jq.2.2.2.1
                rw [hb56, z] at h7
                cases h7⟩
  have cut38 : ∀ (mm : sp_M) (x : Int32) (f lk : Nat) (th : Option Nat), sp_I G P A mm → sp_F m mm A sp_Tj → sp_js mm A NA BA n f lk th none none 0 → lk ≤ 8 → (∀ j, th = some j → j < n) → ((¬ x = 0 ∧ ∃ r, pu_wk R n T (¬ sp_hr R 32 = 0) 1 0 us r ∧ r.1 = x) ∨ (x = 0 ∧ pu_wk R n T (¬ sp_hr R 32 = 0) 1 0 us (0, f, lk, th))) → w 6810 27240 mm 38 [(0, false, va_rf (some (A 7))), (1, false, va_rf (some e)), (2, false, .int x)] [] := by
    intro mm x f lk th I9 F9 jq hlk hth hx
    have u7 := I9.S.k 7 10 (by decide)
    refine sp_iload_n X (pc := 38) (x := x) dX8_judge_38 rfl rfl ?_
    refine sp_if_ne X (pc := 39) (tgt := 48) dX8_judge_39 (by decide) (fun hb39 => ?_) (fun hb39 => ?_)
    · refine sp_less X (k' := 0) (n' := 0) (Nat.zero_le _) (Nat.zero_le _) ?_
      first
        | exact cut48 m44 v44 f lk th al sh dd k1 (F9.tr k2) k3 hlk hth k4 k5 (by
            rcases hx with ⟨q1, -⟩ | ⟨q1, q2⟩
            · exact absurd hb39 q1
            · by_cases z : v44 = 0
              · rw [z] at k6
                exact Or.inr ⟨z, q2, k6⟩
              · exact Or.inl ⟨z, _, q2, Or.inr ⟨rfl, v44, k6, Or.inl ⟨z, rfl⟩⟩⟩)
        | exact cut48 mm x f lk th none none 0 I9 F9 jq hlk hth (fun j z => by cases z) (fun j z => by cases z) (by
            rcases hx with ⟨q1, r, q2, q3⟩ | ⟨q1, -⟩
            · exact Or.inl ⟨q1, r, q2, Or.inl ⟨by rw [q3]; exact q1, q3.symm⟩⟩
            · exact absurd q1 hb39)
    · refine sp_aload_n X (pc := 42) (r := some (A 7)) dX8_judge_42 rfl rfl ?_
      refine sp_aload_n X (pc := 43) (r := some e) dX8_judge_43 rfl rfl ?_
      refine sp_callV X (pc := 44) (mc := 6810) (ms := 27240) (b := (A 7)) (c := 9) (r := some (A 7)) (As := [va_rf (some e)]) (rest := []) (c_Taking_judgeKind l G _ hG I9 (hN.F hI F9 sp_Tj.n9 sp_Tj.n6 sp_Tj.n7) hW (hcR.F hI F9) hTT jq (by omega) hth (F9.ty hI.wf he (by decide)) ((F9.I hel (by decide) (by unfold sp_Tj; decide)).trans hkd) ((F9.R hel (by decide)).trans ho1) (F9.pt hI I9 hpto) (hpvo.F hI F9) (fun z => by rw [F9.I (hI.wf o (by have := hpto.1; omega)) (by decide) (by unfold sp_Tj; decide)]; exact h2 z) (fun q hq => F9.ty hI.wf (hBT q hq) (by decide))) ok_Taking_judgeKind rfl u7 (by decide) rfl lk_Taking_120 rfl rfl (Nat.zero_le _) (Nat.le_of_ble_eq_true rfl) (Nat.le_of_ble_eq_true rfl) (by omega) (by omega) dX8_judge_44 (sp_kI fun v44 m44 hp44 => ?_)
      obtain ⟨k1, k2, al, sh, dd, k3, k4, k5, k6⟩ := hp44
      refine sp_istore_n X (pc := 47) (lv' := [(2, false, .int v44), (0, false, va_rf (some (A 7))), (1, false, va_rf (some e))]) dX8_judge_47 rfl (by decide) rfl ?_
      refine sp_pick X [1, 2, 0] (lv' := [(0, false, va_rf (some (A 7))), (1, false, va_rf (some e)), (2, false, .int v44)]) rfl ?_
      refine sp_less X (k' := 0) (n' := 0) (Nat.zero_le _) (Nat.zero_le _) ?_
      first
        | exact cut48 m44 v44 f lk th al sh dd k1 (F9.tr k2) k3 hlk hth k4 k5 (by
            rcases hx with ⟨q1, -⟩ | ⟨q1, q2⟩
            · exact absurd hb39 q1
            · by_cases z : v44 = 0
              · rw [z] at k6
                exact Or.inr ⟨z, q2, k6⟩
              · exact Or.inl ⟨z, _, q2, Or.inr ⟨rfl, v44, k6, Or.inl ⟨z, rfl⟩⟩⟩)
        | exact cut48 mm x f lk th none none 0 I9 F9 jq hlk hth (fun j z => by cases z) (fun j z => by cases z) (by
            rcases hx with ⟨q1, r, q2, q3⟩ | ⟨q1, -⟩
            · exact Or.inl ⟨q1, r, q2, Or.inl ⟨by rw [q3]; exact q1, q3.symm⟩⟩
            · exact absurd q1 hb39)
  refine sp_aload_n X (pc := 0) (r := some (A 7)) dX8_judge_0 rfl rfl ?_
  refine sp_callV X (pc := 1) (mc := 0) (ms := 0) (b := (A 7)) (c := 9) (r := some (A 7)) (As := []) (rest := []) (c_Taking_forgetLastJudgement l G _ hG hI hN hW) ok_Taking_forgetLastJudgement rfl t7 (by decide) rfl lk_Taking_94 rfl rfl (Nat.zero_le _) (Nat.le_of_ble_eq_true rfl) (Nat.le_of_ble_eq_true rfl) (Nat.zero_le _) (Nat.zero_le _) dX8_judge_1 (sp_kV fun m1 hp1 => ?_)
  obtain ⟨f1, f2, f3⟩ := hp1
  have he1 := f2.ty hI.wf he (by decide)
  have x7 := f1.S.k 7 10 (by decide)
  have hp11 : m1.fR 193 e = some p := by rw [f2.R hel (by decide)]; exact hp1
  have hpt1 := f2.pt hI f1 hptp
  refine sp_aload_n X (pc := 4) (r := some (A 7)) dX8_judge_4 rfl rfl ?_
  refine sp_aload_n X (pc := 5) (r := some e) dX8_judge_5 rfl rfl ?_
  refine sp_getfield X (pc := 6) (c := 3) (i := 1) (t := 2) (a := e) (v := va_rf (some p)) rfl he1 (by decide) rfl (congrArg va_rf hp11) fl_Taking_97 dX8_judge_6 ?_
  refine sp_callV X (pc := 9) (mc := 0) (ms := 0) (b := (A 7)) (c := 9) (r := some (A 7)) (As := [va_rf (some p)]) (rest := []) (c_Taking_judgeWay l G _ hG f1 (hN.F hI f2 sp_Tj.n9 sp_Tj.n6 sp_Tj.n7) hW (hcR.F hI f2) hpt1 (hpvp.F hI f2) hs1 hs8 f3) ok_Taking_judgeWay rfl x7 (by decide) rfl lk_Taking_103 rfl rfl (Nat.zero_le _) (Nat.le_of_ble_eq_true rfl) (Nat.le_of_ble_eq_true rfl) (Nat.zero_le _) (Nat.zero_le _) dX8_judge_9 (sp_kI fun v9 m9 hp9 => ?_)
  obtain ⟨g1, g2, fo, lk, g3, g4, g6⟩ := hp9
  have g5 := f2.tr g2
  have he2 := g5.ty hI.wf he (by decide)
  have hpt2 := g5.pt hI g1 hptp
  have hp99 : m9.fR 193 e = some p := by rw [g5.R hel (by decide)]; exact hp1
  have y7 := g1.S.k 7 10 (by decide)
  refine sp_istore_n X (pc := 12) (lv' := [(2, false, .int v9), (0, false, va_rf (some (A 7))), (1, false, va_rf (some e))]) dX8_judge_12 rfl (by decide) rfl ?_
  refine sp_iload_n X (pc := 13) (x := v9) dX8_judge_13 rfl rfl ?_
  refine sp_if_ne X (pc := 14) (tgt := 38) dX8_judge_14 (by decide) (fun hb14 => ?_) (fun hb14 => ?_)
  · refine sp_pick X [1, 2, 0] (lv' := [(0, false, va_rf (some (A 7))), (1, false, va_rf (some e)), (2, false, .int v9)]) rfl ?_
    first
      | exact cut38 m34 v34 fo lk th j1 (g5.tr j2) j3 g4 j4 (by
          rcases g6 with ⟨q1, q2, q3⟩ | ⟨q1, q2⟩
          · rcases j5 with ⟨z1, z2⟩ | ⟨z1, z2⟩
            · exact Or.inr ⟨z1, q3 _ z2⟩
            · exact Or.inl ⟨by rw [z1]; decide, (-12, 0, 0, none), q3 _ (z2 _ rfl), z1.symm⟩
          · exact absurd hb14 q1)
      | exact cut38 m9 v9 fo lk none g1 g5 g3 g4 (fun j z => by cases z) (by
          rcases g6 with ⟨q1, -⟩ | ⟨q1, q2⟩
          · exact absurd q1 hb14
          · exact Or.inl ⟨q1, (v9, 0, 0, none), q2 _ rfl, rfl⟩)
  · refine sp_aload_n X (pc := 17) (r := some (A 7)) dX8_judge_17 rfl rfl ?_
    refine sp_aload_n X (pc := 18) (r := some e) dX8_judge_18 rfl rfl ?_
    refine sp_getfield X (pc := 19) (c := 3) (i := 1) (t := 2) (a := e) (v := va_rf (some p)) rfl he2 (by decide) rfl (congrArg va_rf hp99) fl_Taking_97 dX8_judge_19 ?_
    refine sp_aload_n X (pc := 22) (r := some e) dX8_judge_22 rfl rfl ?_
    refine sp_getfield X (pc := 23) (c := 3) (i := 1) (t := 2) (a := e) (v := va_rf (some p)) rfl he2 (by decide) rfl (congrArg va_rf hp99) fl_Taking_97 dX8_judge_23 ?_
    refine sp_callV X (pc := 26) (mc := 0) (ms := 0) (b := p) (c := 7) (r := (some p)) (As := []) (rest := [va_rf (some p), va_rf (some (A 7))]) (c_Parted_count l G _ hpt2) ok_Parted_count rfl hpt2.1 (by decide) rfl lk_Taking_107 rfl rfl (by simp [sp_cat_rf, sp_cat_i, sp_cat_l]) (Nat.le_of_ble_eq_true rfl) (Nat.le_of_ble_eq_true rfl) (Nat.zero_le _) (Nat.zero_le _) dX8_judge_26 (sp_kI fun v26 m26 hp26 => ?_)
    obtain ⟨hp26v, hp26⟩ := hp26; replace hp26 := (hp26).symm; subst hp26; replace hp26v := (hp26v).symm; subst hp26v
    refine sp_iconst X (pc := 29) (v := 1) dX8_judge_29 (by decide) ?_
    refine sp_isub X (pc := 30) dX8_judge_30 ?_
    refine sp_callV X (pc := 31) (mc := 0) (ms := 0) (b := p) (c := 7) (r := (some p)) (As := [.int ((nI sp) - 1)]) (rest := [va_rf (some (A 7))]) (c_Parted_at l G _ hpt2) ok_Parted_at rfl hpt2.1 (by decide) rfl lk_Taking_112 rfl rfl (by simp [sp_cat_rf, sp_cat_i, sp_cat_l]) (Nat.le_of_ble_eq_true rfl) (Nat.le_of_ble_eq_true rfl) (Nat.zero_le _) (Nat.zero_le _) dX8_judge_31 (sp_kR fun v31 m31 hp31 => ?_)
    obtain ⟨hp31, hp31m⟩ := hp31; replace hp31m := (hp31m).symm; subst hp31m
    obtain ⟨nm, rfl, hnmt, hk31, -⟩ := hp31
    have hnv31 : sp_nv m9 nm (us.getD (us.length - 1) []) := by
      obtain ⟨nm', z1, z2⟩ := ((hpvp.F hI g5).pt hpt2).2.1 (us.length - 1) (by omega)
      rw [hk31 (us.length - 1) (by omega) (by rw [hsu, show us.length = us.length - 1 + 1 by omega]; exact nI_pred _)] at z1
      cases z1
      exact z2
    refine sp_callV X (pc := 34) (mc := 0) (ms := 0) (b := (A 7)) (c := 9) (r := some (A 7)) (As := [va_rf (some nm)]) (rest := []) (c_Taking_judgeLast l G _ hG g1 (hN.F hI g5 sp_Tj.n9 sp_Tj.n6 sp_Tj.n7) hW (hcR.F hI g5) g3 (by omega) hnv31) ok_Taking_judgeLast rfl y7 (by decide) rfl lk_Taking_116 rfl rfl (Nat.zero_le _) (Nat.le_of_ble_eq_true rfl) (Nat.le_of_ble_eq_true rfl) (Nat.zero_le _) (Nat.zero_le _) dX8_judge_34 (sp_kI fun v34 m34 hp34 => ?_)
    obtain ⟨j1, j2, th, j3, j4, j5⟩ := hp34
    refine sp_istore_n X (pc := 37) (lv' := [(2, false, .int v34), (0, false, va_rf (some (A 7))), (1, false, va_rf (some e))]) dX8_judge_37 rfl (by decide) rfl ?_
    refine sp_pick X [1, 2, 0] (lv' := [(0, false, va_rf (some (A 7))), (1, false, va_rf (some e)), (2, false, .int v34)]) rfl ?_
    first
      | exact cut38 m34 v34 fo lk th j1 (g5.tr j2) j3 g4 j4 (by
          rcases g6 with ⟨q1, q2, q3⟩ | ⟨q1, q2⟩
          · rcases j5 with ⟨z1, z2⟩ | ⟨z1, z2⟩
            · exact Or.inr ⟨z1, q3 _ z2⟩
            · exact Or.inl ⟨by rw [z1]; decide, (-12, 0, 0, none), q3 _ (z2 _ rfl), z1.symm⟩
          · exact absurd hb14 q1)
      | exact cut38 m9 v9 fo lk none g1 g5 g3 g4 (fun j z => by cases z) (by
          rcases g6 with ⟨q1, -⟩ | ⟨q1, q2⟩
          · exact absurd q1 hb14
          · exact Or.inl ⟨q1, (v9, 0, 0, none), q2 _ rfl, rfl⟩)
