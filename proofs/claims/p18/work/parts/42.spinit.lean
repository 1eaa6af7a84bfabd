
theorem sp_J.up {G : sp_G} {P P' E : Nat → Prop} {m : sp_M} (hJ : sp_J G P E m) (h : ∀ a, P' a → P a ∨ m.ty a = 0) : sp_J G P' E m := by
  obtain ⟨h1, h2, h3, h4, h5⟩ := hJ
  refine ⟨h1, h2, h3, fun a ha he => ?_, h5⟩
  obtain ⟨b, s, q1, q2, q3, q4⟩ := h4 a ha he
  have r1 := q1.2.2.2.1
  have r2 := q1.2.2.2.2.1
  exact ⟨b, s, q1, fun z => by rcases h b z with z | z; exact q2 z; omega, fun z => by rcases h s z with z | z; exact q3 z; omega, q4⟩
theorem sp_J_newA {G : sp_G} {P E : Nat → Prop} {m : sp_M} (hJ : sp_J G P E m) (hwf : sp_wf m) (t n : Nat) (ht : t = 20 ∨ t = 21 ∨ t = 22) : sp_J G P E (m.newA t n) := by
  have hz := hwf.z
  have hne : ∀ a, m.ty a ≠ 0 → a ≠ m.nx := fun a ha z => by subst z; exact ha hz
  have hty : ∀ a, m.ty a ≠ 0 → (m.newA t n).ty a = m.ty a := fun a ha => by rw [sp_newA_ty, if_neg (hne a ha)]
  have hln : ∀ a, m.ty a ≠ 0 → (m.newA t n).ln a = m.ln a := fun a ha => by rw [sp_newA_ln, if_neg (hne a ha)]
  have hti : ∀ a k, (m.newA t n).ty a = k → k < 20 → m.ty a = k := fun a k h1 h2 => by
    rw [sp_newA_ty] at h1
    split at h1
    · omega
    · exact h1
  refine hJ.frame hty hln (fun _ _ _ _ _ => rfl) (fun a ha _ => by funext j; rw [sp_newA_aI, if_neg (hne a (by omega))]) (fun _ _ _ _ _ _ => rfl) (fun a ha he => ?_) ?_ (fun a h0 h1 h2 => ?_) (fun a h0 h1 h2 => ?_) (fun a h0 h1 h2 => ?_) (fun a h0 h1 h2 => ?_) (fun a h0 h1 h2 => ?_)
  · obtain ⟨g1, g2⟩ := hJ.2.1 a (hti a 1 ha (by decide)) he
    exact g1.same g2 hty hln rfl rfl (fun ed _ h23 => by funext j; rw [sp_newA_aR, if_neg (hne ed (by omega))])
  · intro a b ed h1 h2 he1 he2 h3 h4 h5
    have g1 := hti a 1 h1 (by decide)
    have g3 := hti b 1 h2 (by decide)
    obtain ⟨⟨e9, s9, hli9, -⟩, -⟩ := hJ.2.1 a g1 he1
    have e99 : e9 = ed := Option.some.inj (hli9.2.1.symm.trans h3)
    subst e99
    have he0 : m.ty e9 ≠ 0 := by have := hli9.2.2.2.2.2; omega
    exact hJ.2.2.1 a b e9 g1 g3 he1 he2 h3 h4 (by rw [← hty e9 he0]; exact h5)
  all_goals
    exfalso
    have h9 := hti a _ h1 (by decide)
    rcases h0 with h0 | h0
    · omega
    · exact h2 h0
theorem sp_nq.nd {G : sp_G} {m : sp_M} {R : Int32} {TT : Nat → List Int32} {T : pu_N} {NA BA : Nat → Nat} {j : Nat} {f b : Option Nat} {u : List Int32} (h : sp_nq m (NA j) (nI j) f u b) (hf : f = if j = 0 then none else some (NA (T.o j))) (hu : u = T.w j) (hd : T.d j = 0 ∧ T.s j = 0 ∧ T.g j = 0) (hb : b = if T.k j = 1 then some (BA (T.h j)) else none) (hk : ¬ T.k j = 2) : sp_nd G m R TT T NA BA j := by
  obtain ⟨n1, n2, n3, n4, ⟨n6, n7, n8⟩, n9, n10⟩ := h
  rw [hu] at n4
  exact ⟨n1, n2, n3.trans hf, n4, ⟨n6.trans hd.1.symm, n7.trans hd.2.1.symm, n8.trans hd.2.2.symm⟩, n9.trans hb, fun _ => n10, fun z => absurd z hk⟩
theorem sp_cZ.new {G : sp_G} {m : sp_M} {A : Nat → Nat} {R : Int32} {TT : Nat → List Int32} {e9 e10 e16 bd : Nat} (l9 : sp_li G m (A 9) e9 4) (E0 : m.aR e9 0 = some (A 11)) (E1 : m.aR e9 1 = some (A 12)) (E2 : m.aR e9 2 = some (A 13)) (E3 : m.aR e9 3 = some (A 14)) (q1 : sp_nq m (A 11) 0 none ([] : List Int32) none) (q2 : sp_nq m (A 12) 1 (some (A 11)) ([111, 117, 116] : List Int32) none) (q3 : sp_nq m (A 13) 2 (some (A 11)) ([104, 111, 109, 101] : List Int32) none) (q4 : sp_nq m (A 14) 3 (some (A 13)) ([107, 101, 121] : List Int32) (some bd)) (l10 : sp_li G m (A 10) e10 1) (F0 : m.aR e10 0 = some bd) (qb : sp_bq m bd 0 8 42) (l16 : sp_li G m (A 16) e16 0) (h582 : m.fI 582 (A 7) = 0) (h583 : m.fL 583 (A 7) = 0) : sp_cZ G m A R TT pu_Z0 (fun j => A (11 + j)) (fun _ => bd) := by
  refine ⟨⟨⟨e9, l9, fun j hj => ?_⟩, ⟨rfl, rfl, rfl, rfl⟩, fun j hj => ?_⟩, ⟨⟨e10, l10, fun j hj => ?_⟩, fun j hj => ?_⟩, ⟨e16, l16, fun i hi => absurd hi (Nat.not_lt_zero _)⟩, h582, h583⟩
  · have hj : j < 4 := hj
    have : j = 0 ∨ j = 1 ∨ j = 2 ∨ j = 3 := by omega
    rcases this with rfl | rfl | rfl | rfl
    · exact E0
    · exact E1
    · exact E2
    · exact E3
  · have hj : j < 4 := hj
    have : j = 0 ∨ j = 1 ∨ j = 2 ∨ j = 3 := by omega
    rcases this with rfl | rfl | rfl | rfl
    · exact sp_nq.nd (j := 0) q1 rfl rfl ⟨rfl, rfl, rfl⟩ rfl (by decide)
    · exact sp_nq.nd (j := 1) q2 rfl rfl ⟨rfl, rfl, rfl⟩ rfl (by decide)
    · exact sp_nq.nd (j := 2) q3 rfl rfl ⟨rfl, rfl, rfl⟩ rfl (by decide)
    · exact sp_nq.nd (j := 3) q4 rfl rfl ⟨rfl, rfl, rfl⟩ rfl (by decide)
  · have hj : j < 1 := hj
    obtain rfl : j = 0 := by omega
    exact F0
  · have hj : j < 1 := hj
    obtain rfl : j = 0 := by omega
    exact qb
def sp_Pw (P : Nat → Prop) (b : Nat) (a : Nat) : Prop := P a ∨ a = b
theorem sp_hr_bo {x r k : Int32} (hy : sp_bo x (¬ r &&& k = 0)) (hk : 63 &&& k = k) : ¬ x = 0 ↔ ¬ sp_hr (r &&& 63) k = 0 := by
  unfold sp_hr
  rw [Int32.and_assoc, hk]
  by_cases q : r &&& k = 0
  · rw [if_pos q]
    exact ⟨fun z => absurd q (hy.ne z), fun z => absurd rfl z⟩
  · rw [if_neg q]
    exact ⟨fun _ => by decide, fun _ z => hy.eq z q⟩
set_option maxHeartbeats 4000000 in
set_option maxRecDepth 20000 in
theorem c_SP_init (l : Launch) (G : sp_G) (m : sp_M) {P : Nat → Prop} {m0 : sp_M} (hG : sp_GS G) (hJ : sp_J G P sp_E0 m) (hwf : sp_wf m) (hP : ∀ a, P a → a < m.nx) (hfx : sp_fx m0 m sp_w0) {x : Nat} {r : Int32} (hx : m.ty x = 13) (hx0 : m0.nx ≤ x) (h4t : m.ty (G.sk 4) = 24) (h4l : m.ln (G.sk 4) = 0) (h5t : m.ty (G.sk 5) = 24) (h5l : m.ln (G.sk 5) = 3) (h6t : m.ty (G.sk 6) = 24) (h6l : m.ln (G.sk 6) = 4) (h7t : m.ty (G.sk 7) = 24) (h7l : m.ln (G.sk 7) = 3) (h5c : ∀ j, j < 3 → m.aI (G.sk 5) j = ([111, 117, 116] : List Int32).getD j 0) (h6c : ∀ j, j < 4 → m.aI (G.sk 6) j = ([104, 111, 109, 101] : List Int32).getD j 0) (h7c : ∀ j, j < 3 → m.aI (G.sk 7) j = ([107, 101, 121] : List Int32).getD j 0) : sp_C l G M_SP_init 40 400 [.ref x, .int r] m (sp_oV fun m' => ∃ A : Nat → Nat, A 17 = x ∧ sp_I G (sp_Pw P (A 8)) A m' ∧ sp_bn G m' A ∧ sp_fx m0 m' sp_w0 ∧ m'.fI 129 (A 1) = 0 ∧ m'.fI 2 (A 2) = nI 0 ∧ m'.fI 2 (A 3) = nI 0 ∧ m'.fI 2 (A 4) = nI 0 ∧ m'.fL 580 (A 7) = 1000000 ∧ m'.fL 581 (A 7) = 4611686018427387904 ∧ sp_cR m' A (r &&& 63) ∧ m'.fI 776 (A 17) = 0 ∧ ∃ NA BA, ∀ TT, sp_cZ G m' A (r &&& 63) TT pu_Z0 NA BA) := by
  refine sp_enter (lv0 := [(0, false, va_rf (some x)), (1, false, .int r)]) "SafePaths" true rfl (by decide) (fun _ => rfl) (Nat.le_of_ble_eq_true rfl) rfl ?_
  intro w X
  refine sp_aload_n X (pc := 0) (r := some x) dX11_init_0 rfl rfl ?_
  refine sp_objInit X (pc := 1) (a := x) rfl lk_SP_1 oi_1 oi_2 (Nat.le_of_ble_eq_true rfl) (Nat.le_of_ble_eq_true rfl) dX11_init_1 ?_
  refine sp_aload_n X (pc := 4) (r := some x) dX11_init_4 rfl rfl ?_
  obtain ⟨rl, hrl⟩ : ∃ a, a = m.nx := ⟨_, rfl⟩
  refine sp_new X (pc := 5) (c := 8) (N := 6) (by decide) rfl cl_SP_7 in_8 it_8 (by decide) (by decide) dX11_init_5 ?_
  rw [← hrl]
  obtain ⟨c1, hc1⟩ : ∃ c, c = m.newO 8 := ⟨_, rfl⟩
  rw [← hc1]
  have tc1 : c1.ty rl = 9 := by rw [hc1, hrl, sp_newO_ty, if_pos rfl]
  have jc1 : sp_J G P (sp_E1 (sp_E0) rl) c1 := by subst hrl; rw [hc1]; exact hJ.newO0 hwf 8
  have Jc1 : sp_J G P (sp_E0) c1 := jc1.drop (fun h => by omega) (fun h => by omega) (fun h => by omega) (fun h => by omega) (fun h => by omega) (fun h => by omega)
  have wc1 : sp_wf c1 := by rw [hc1]; exact hwf.newO 8
  have xc1 : sp_fx m c1 sp_w0 := by rw [hc1]; exact (sp_fx.refl m sp_w0).newO 8
  have ac1 : m.nx ≤ rl := by rw [hrl]; exact Nat.le_refl _
  clear hc1 jc1
  have tx_1 := xc1.ty hwf hx (by decide)
  have T4_1 := xc1.ty hwf h4t (by decide)
  have N4_1 := (xc1.ln hwf h4t (by decide)).trans h4l
  have T5_1 := xc1.ty hwf h5t (by decide)
  have N5_1 := (xc1.ln hwf h5t (by decide)).trans h5l
  have C5_1 : ∀ j, j < 3 → c1.aI (G.sk 5) j = (([111, 117, 116] : List Int32) : List Int32).getD j 0 := fun j hj => by rw [(xc1.2.2.2.2.2 (G.sk 5) (hwf (G.sk 5) (by rw [h5t]; decide)) (fun z => z)).1]; exact h5c j hj
  have T6_1 := xc1.ty hwf h6t (by decide)
  have N6_1 := (xc1.ln hwf h6t (by decide)).trans h6l
  have C6_1 : ∀ j, j < 4 → c1.aI (G.sk 6) j = (([104, 111, 109, 101] : List Int32) : List Int32).getD j 0 := fun j hj => by rw [(xc1.2.2.2.2.2 (G.sk 6) (hwf (G.sk 6) (by rw [h6t]; decide)) (fun z => z)).1]; exact h6c j hj
  have T7_1 := xc1.ty hwf h7t (by decide)
  have N7_1 := (xc1.ln hwf h7t (by decide)).trans h7l
  have C7_1 : ∀ j, j < 3 → c1.aI (G.sk 7) j = (([107, 101, 121] : List Int32) : List Int32).getD j 0 := fun j hj => by rw [(xc1.2.2.2.2.2 (G.sk 7) (hwf (G.sk 7) (by rw [h7t]; decide)) (fun z => z)).1]; exact h7c j hj
  have fc1 : sp_fx m0 c1 sp_w0 := hfx.tr0 xc1
  have nnc1 : m.nx ≤ c1.nx := Nat.le_trans (Nat.le_refl m.nx) xc1.1
  refine sp_dup X (pc := 8) dX11_init_8 (sp_cat_rf _) ?_
  refine sp_iload_n X (pc := 9) (x := r) dX11_init_9 rfl rfl ?_
  refine sp_callI X (pc := 10) (mc := 0) (ms := 0) (b := rl) (r := some rl) (As := [.int r]) (rest := [va_rf (some rl), va_rf (some x)]) (c_Rules_init l G _ (o := rl) tc1) ok_Rules_init rfl rfl lk_SP_9 rfl rfl (by simp [sp_cat_rf, sp_cat_i, sp_cat_l]) (Nat.le_of_ble_eq_true rfl) (Nat.le_of_ble_eq_true rfl) (Nat.zero_le _) (Nat.zero_le _) dX11_init_10 (sp_kV fun m10 hp10 => ?_)
  obtain ⟨c2, hc2⟩ : ∃ c, c = m10 := ⟨_, rfl⟩
  rw [← hc2]
  rw [← hc2] at hp10
  clear hc2
  obtain ⟨x1, x2, x3, x4, x5, x6, y1, y2, y3, y4, y5, y6, hmc2⟩ := hp10
  have Jc2 : sp_J G P sp_E0 c2 := by
    rw [hmc2]
    have q1 := Jc1.pI (k := 512) (a := rl) (v := x1) (by decide)
    have q2 := q1.pI (k := 513) (a := rl) (v := x2) (by decide)
    have q3 := q2.pI (k := 514) (a := rl) (v := x3) (by decide)
    have q4 := q3.pI (k := 515) (a := rl) (v := x4) (by decide)
    have q5 := q4.pI (k := 516) (a := rl) (v := x5) (by decide)
    exact q5.pI (k := 517) (a := rl) (v := x6) (by decide)
  have wc2 : sp_wf c2 := by rw [hmc2]; exact wc1
  have xc2 : sp_fx m c2 sp_w0 := by
    rw [hmc2]
    have q1 := xc1.pI (k := 512) (a := rl) (v := x1) (Or.inr ac1)
    have q2 := q1.pI (k := 513) (a := rl) (v := x2) (Or.inr ac1)
    have q3 := q2.pI (k := 514) (a := rl) (v := x3) (Or.inr ac1)
    have q4 := q3.pI (k := 515) (a := rl) (v := x4) (Or.inr ac1)
    have q5 := q4.pI (k := 516) (a := rl) (v := x5) (Or.inr ac1)
    exact q5.pI (k := 517) (a := rl) (v := x6) (Or.inr ac1)
  have ttc2 : c2.ty rl = 9 := by rw [hmc2]; exact tc1
  have g1c2 : c2.fI 512 rl = x1 := by rw [hmc2]; simp [sp_pI_fI]
  have g2c2 : c2.fI 513 rl = x2 := by rw [hmc2]; simp [sp_pI_fI]
  have g3c2 : c2.fI 514 rl = x3 := by rw [hmc2]; simp [sp_pI_fI]
  have g4c2 : c2.fI 515 rl = x4 := by rw [hmc2]; simp [sp_pI_fI]
  have g5c2 : c2.fI 516 rl = x5 := by rw [hmc2]; simp [sp_pI_fI]
  have g6c2 : c2.fI 517 rl = x6 := by rw [hmc2]; simp [sp_pI_fI]
  clear hmc2
  have tx_2 := xc2.ty hwf hx (by decide)
  have T4_2 := xc2.ty hwf h4t (by decide)
  have N4_2 := (xc2.ln hwf h4t (by decide)).trans h4l
  have T5_2 := xc2.ty hwf h5t (by decide)
  have N5_2 := (xc2.ln hwf h5t (by decide)).trans h5l
  have C5_2 : ∀ j, j < 3 → c2.aI (G.sk 5) j = (([111, 117, 116] : List Int32) : List Int32).getD j 0 := fun j hj => by rw [(xc2.2.2.2.2.2 (G.sk 5) (hwf (G.sk 5) (by rw [h5t]; decide)) (fun z => z)).1]; exact h5c j hj
  have T6_2 := xc2.ty hwf h6t (by decide)
  have N6_2 := (xc2.ln hwf h6t (by decide)).trans h6l
  have C6_2 : ∀ j, j < 4 → c2.aI (G.sk 6) j = (([104, 111, 109, 101] : List Int32) : List Int32).getD j 0 := fun j hj => by rw [(xc2.2.2.2.2.2 (G.sk 6) (hwf (G.sk 6) (by rw [h6t]; decide)) (fun z => z)).1]; exact h6c j hj
  have T7_2 := xc2.ty hwf h7t (by decide)
  have N7_2 := (xc2.ln hwf h7t (by decide)).trans h7l
  have C7_2 : ∀ j, j < 3 → c2.aI (G.sk 7) j = (([107, 101, 121] : List Int32) : List Int32).getD j 0 := fun j hj => by rw [(xc2.2.2.2.2.2 (G.sk 7) (hwf (G.sk 7) (by rw [h7t]; decide)) (fun z => z)).1]; exact h7c j hj
  have fc2 : sp_fx m0 c2 sp_w0 := hfx.tr0 xc2
  have nnc2 : m.nx ≤ c2.nx := Nat.le_trans (Nat.le_refl m.nx) xc2.1
  have tc2 : c2.ty rl = 9 := ttc2
  have grl : m0.nx ≤ rl := by rw [hrl]; exact hfx.1
  refine sp_putR X (pc := 13) (c := 12) (i := 0) (q := 768) (a := x) rfl (by first | assumption | omega) (by decide) rfl rfl (Or.inr ⟨rfl, rfl, rfl⟩)  fl_SP_12 dX11_init_13 ?_
  obtain ⟨c3, hc3⟩ : ∃ c, c = c2.pR 768 x (some rl) := ⟨_, rfl⟩
  rw [← hc3]
  have Jc3 : sp_J G P (sp_E0) c3 := by rw [hc3]; exact Jc2.pR (Or.inl (by unfold sp_fk; omega))
  have wc3 : sp_wf c3 := by rw [hc3]; exact wc2
  have fc3 : sp_fx m0 c3 sp_w0 := by rw [hc3]; exact fc2.pR (Or.inr hx0)
  have tx_3 : c3.ty x = 13 := by rw [hc3]; exact tx_2
  have T4_3 : c3.ty (G.sk 4) = 24 := by rw [hc3]; exact T4_2
  have N4_3 : c3.ln (G.sk 4) = 0 := by rw [hc3]; exact N4_2
  have T5_3 : c3.ty (G.sk 5) = 24 := by rw [hc3]; exact T5_2
  have N5_3 : c3.ln (G.sk 5) = 3 := by rw [hc3]; exact N5_2
  have C5_3 : ∀ j, j < 3 → c3.aI (G.sk 5) j = (([111, 117, 116] : List Int32) : List Int32).getD j 0 := by rw [hc3]; exact C5_2
  have T6_3 : c3.ty (G.sk 6) = 24 := by rw [hc3]; exact T6_2
  have N6_3 : c3.ln (G.sk 6) = 4 := by rw [hc3]; exact N6_2
  have C6_3 : ∀ j, j < 4 → c3.aI (G.sk 6) j = (([104, 111, 109, 101] : List Int32) : List Int32).getD j 0 := by rw [hc3]; exact C6_2
  have T7_3 : c3.ty (G.sk 7) = 24 := by rw [hc3]; exact T7_2
  have N7_3 : c3.ln (G.sk 7) = 3 := by rw [hc3]; exact N7_2
  have C7_3 : ∀ j, j < 3 → c3.aI (G.sk 7) j = (([107, 101, 121] : List Int32) : List Int32).getD j 0 := by rw [hc3]; exact C7_2
  have trl_3 : c3.ty rl = 9 := by rw [hc3]; exact tc2
  have grl_3 : m0.nx ≤ rl := grl
  have g1_3 : c3.fI 512 rl = x1 := by rw [hc3]; exact g1c2
  have g2_3 : c3.fI 513 rl = x2 := by rw [hc3]; exact g2c2
  have g3_3 : c3.fI 514 rl = x3 := by rw [hc3]; exact g3c2
  have g4_3 : c3.fI 515 rl = x4 := by rw [hc3]; exact g4c2
  have g5_3 : c3.fI 516 rl = x5 := by rw [hc3]; exact g5c2
  have g6_3 : c3.fI 517 rl = x6 := by rw [hc3]; exact g6c2
  have nnc3 : m.nx ≤ c3.nx := by rw [hc3]; exact nnc2
  have p768_x_3 : c3.fR 768 x = (some rl) := by rw [hc3, sp_pR_fR, if_pos ⟨rfl, rfl⟩]
  clear hc3
  clear tx_2 T4_2 N4_2 T5_2 N5_2 C5_2 T6_2 N6_2 C6_2 T7_2 N7_2 C7_2
  refine sp_aload_n X (pc := 16) (r := some x) dX11_init_16 rfl rfl ?_
  obtain ⟨dd, hdd⟩ : ∃ a, a = c3.nx := ⟨_, rfl⟩
  refine sp_new X (pc := 17) (c := 2) (N := 2) (by decide) rfl cl_SP_18 in_2 it_2 (by decide) (by decide) dX11_init_17 ?_
  rw [← hdd]
  obtain ⟨c4, hc4⟩ : ∃ c, c = c3.newO 2 := ⟨_, rfl⟩
  rw [← hc4]
  have tc4 : c4.ty dd = 3 := by rw [hc4, hdd, sp_newO_ty, if_pos rfl]
  have jc4 : sp_J G P (sp_E1 (sp_E0) dd) c4 := by subst hdd; rw [hc4]; exact Jc3.newO0 wc3 2
  have Jc4 : sp_J G P (sp_E0) c4 := jc4.drop (fun h => by omega) (fun h => by omega) (fun h => by omega) (fun h => by omega) (fun h => by omega) (fun h => by omega)
  have wc4 : sp_wf c4 := by rw [hc4]; exact wc3.newO 2
  have xc4 : sp_fx c3 c4 sp_w0 := by rw [hc4]; exact (sp_fx.refl c3 sp_w0).newO 2
  have ac4 : c3.nx ≤ dd := by rw [hdd]; exact Nat.le_refl _
  clear hc4 jc4
  have tx_4 := xc4.ty wc3 tx_3 (by decide)
  have T4_4 := xc4.ty wc3 T4_3 (by decide)
  have N4_4 := (xc4.ln wc3 T4_3 (by decide)).trans N4_3
  have T5_4 := xc4.ty wc3 T5_3 (by decide)
  have N5_4 := (xc4.ln wc3 T5_3 (by decide)).trans N5_3
  have C5_4 : ∀ j, j < 3 → c4.aI (G.sk 5) j = (([111, 117, 116] : List Int32) : List Int32).getD j 0 := fun j hj => by rw [(xc4.2.2.2.2.2 (G.sk 5) (wc3 (G.sk 5) (by rw [T5_3]; decide)) (fun z => z)).1]; exact C5_3 j hj
  have T6_4 := xc4.ty wc3 T6_3 (by decide)
  have N6_4 := (xc4.ln wc3 T6_3 (by decide)).trans N6_3
  have C6_4 : ∀ j, j < 4 → c4.aI (G.sk 6) j = (([104, 111, 109, 101] : List Int32) : List Int32).getD j 0 := fun j hj => by rw [(xc4.2.2.2.2.2 (G.sk 6) (wc3 (G.sk 6) (by rw [T6_3]; decide)) (fun z => z)).1]; exact C6_3 j hj
  have T7_4 := xc4.ty wc3 T7_3 (by decide)
  have N7_4 := (xc4.ln wc3 T7_3 (by decide)).trans N7_3
  have C7_4 : ∀ j, j < 3 → c4.aI (G.sk 7) j = (([107, 101, 121] : List Int32) : List Int32).getD j 0 := fun j hj => by rw [(xc4.2.2.2.2.2 (G.sk 7) (wc3 (G.sk 7) (by rw [T7_3]; decide)) (fun z => z)).1]; exact C7_3 j hj
  have trl_4 := xc4.ty wc3 trl_3 (by decide)
  have grl_4 := grl_3
  have g1_4 := (xc4.2.2.1 512 rl (wc3 rl (by rw [trl_3]; decide)) (fun z => z)).trans g1_3
  have g2_4 := (xc4.2.2.1 513 rl (wc3 rl (by rw [trl_3]; decide)) (fun z => z)).trans g2_3
  have g3_4 := (xc4.2.2.1 514 rl (wc3 rl (by rw [trl_3]; decide)) (fun z => z)).trans g3_3
  have g4_4 := (xc4.2.2.1 515 rl (wc3 rl (by rw [trl_3]; decide)) (fun z => z)).trans g4_3
  have g5_4 := (xc4.2.2.1 516 rl (wc3 rl (by rw [trl_3]; decide)) (fun z => z)).trans g5_3
  have g6_4 := (xc4.2.2.1 517 rl (wc3 rl (by rw [trl_3]; decide)) (fun z => z)).trans g6_3
  have p768_x_4 := (xc4.2.2.2.2.1 768 x (wc3 x (by rw [tx_3]; decide)) (fun z => z)).trans p768_x_3
  have fc4 : sp_fx m0 c4 sp_w0 := fc3.tr0 xc4
  have nnc4 : m.nx ≤ c4.nx := Nat.le_trans nnc3 xc4.1
  refine sp_dup X (pc := 20) dX11_init_20 (sp_cat_rf _) ?_
  refine sp_callI X (pc := 21) (mc := 1) (ms := 160) (b := dd) (r := some dd) (As := []) (rest := [va_rf (some dd), va_rf (some x)]) (c_Draft_init l G _ (o := dd) tc4) ok_Draft_init rfl rfl lk_SP_20 rfl rfl (by simp [sp_cat_rf, sp_cat_i, sp_cat_l]) (Nat.le_of_ble_eq_true rfl) (Nat.le_of_ble_eq_true rfl) (by decide) (by decide) dX11_init_21 (sp_kV fun m21 hp21 => ?_)
  obtain ⟨c5, hc5⟩ : ∃ c, c = m21 := ⟨_, rfl⟩
  rw [← hc5]
  rw [← hc5] at hp21
  clear hc5
  obtain ⟨a8, ha8⟩ : ∃ a, a = c4.nx := ⟨_, rfl⟩
  have z8 : c4.ty a8 = 0 := by rw [ha8]; exact wc4.z
  have JP : sp_J G (sp_Pw P a8) sp_E0 c4 := Jc4.up (by rintro a (z | z); exact Or.inl z; right; rw [z]; exact z8)
  rw [← ha8] at hp21
  have t8c5 : c5.ty a8 = 20 := by
    rw [hp21]
    show (c4.newA 20 160).ty a8 = 20
    rw [sp_newA_ty, if_pos ha8]
  have l8c5 : c5.ln a8 = 160 := by
    rw [hp21]
    show (c4.newA 20 160).ln a8 = 160
    rw [sp_newA_ln, if_pos ha8]
  have Jc5 : sp_J G (sp_Pw P a8) sp_E0 c5 := by
    rw [hp21]
    have q1 := sp_J_newA JP wc4 20 160 (by decide)
    have q2 := q1.pR (k := 128) (a := dd) (v := some a8) (Or.inl (by unfold sp_fk; omega))
    exact q2.pI (k := 129) (a := dd) (v := 0) (by decide)
  have wc5 : sp_wf c5 := by rw [hp21]; exact wc4.newA 20 160
  have xc5 : sp_fx c3 c5 sp_w0 := by
    rw [hp21]
    have q1 := xc4.newA 20 160
    have q2 := q1.pR (k := 128) (a := dd) (v := some a8) (Or.inr ac4)
    exact q2.pI (k := 129) (a := dd) (v := 0) (Or.inr ac4)
  have ttc5 : c5.ty dd = 3 := by
    rw [hp21]
    show (c4.newA 20 160).ty dd = 3
    rw [sp_newA_ty, if_neg (by have := wc4 dd (by rw [tc4]; decide); omega)]
    exact tc4
  have d1c5 : c5.fR 128 dd = some a8 := by
    rw [hp21]
    show ((c4.newA 20 160).pR 128 dd (some a8)).fR 128 dd = _
    rw [sp_pR_fR, if_pos ⟨rfl, rfl⟩]
  have d2c5 : c5.fI 129 dd = 0 := by rw [hp21, sp_pI_fI, if_pos ⟨rfl, rfl⟩]
  clear hp21
  have tx_5 := xc5.ty wc3 tx_3 (by decide)
  have T4_5 := xc5.ty wc3 T4_3 (by decide)
  have N4_5 := (xc5.ln wc3 T4_3 (by decide)).trans N4_3
  have T5_5 := xc5.ty wc3 T5_3 (by decide)
  have N5_5 := (xc5.ln wc3 T5_3 (by decide)).trans N5_3
  have C5_5 : ∀ j, j < 3 → c5.aI (G.sk 5) j = (([111, 117, 116] : List Int32) : List Int32).getD j 0 := fun j hj => by rw [(xc5.2.2.2.2.2 (G.sk 5) (wc3 (G.sk 5) (by rw [T5_3]; decide)) (fun z => z)).1]; exact C5_3 j hj
  have T6_5 := xc5.ty wc3 T6_3 (by decide)
  have N6_5 := (xc5.ln wc3 T6_3 (by decide)).trans N6_3
  have C6_5 : ∀ j, j < 4 → c5.aI (G.sk 6) j = (([104, 111, 109, 101] : List Int32) : List Int32).getD j 0 := fun j hj => by rw [(xc5.2.2.2.2.2 (G.sk 6) (wc3 (G.sk 6) (by rw [T6_3]; decide)) (fun z => z)).1]; exact C6_3 j hj
  have T7_5 := xc5.ty wc3 T7_3 (by decide)
  have N7_5 := (xc5.ln wc3 T7_3 (by decide)).trans N7_3
  have C7_5 : ∀ j, j < 3 → c5.aI (G.sk 7) j = (([107, 101, 121] : List Int32) : List Int32).getD j 0 := fun j hj => by rw [(xc5.2.2.2.2.2 (G.sk 7) (wc3 (G.sk 7) (by rw [T7_3]; decide)) (fun z => z)).1]; exact C7_3 j hj
  have trl_5 := xc5.ty wc3 trl_3 (by decide)
  have grl_5 := grl_3
  have g1_5 := (xc5.2.2.1 512 rl (wc3 rl (by rw [trl_3]; decide)) (fun z => z)).trans g1_3
  have g2_5 := (xc5.2.2.1 513 rl (wc3 rl (by rw [trl_3]; decide)) (fun z => z)).trans g2_3
  have g3_5 := (xc5.2.2.1 514 rl (wc3 rl (by rw [trl_3]; decide)) (fun z => z)).trans g3_3
  have g4_5 := (xc5.2.2.1 515 rl (wc3 rl (by rw [trl_3]; decide)) (fun z => z)).trans g4_3
  have g5_5 := (xc5.2.2.1 516 rl (wc3 rl (by rw [trl_3]; decide)) (fun z => z)).trans g5_3
  have g6_5 := (xc5.2.2.1 517 rl (wc3 rl (by rw [trl_3]; decide)) (fun z => z)).trans g6_3
  have p768_x_5 := (xc5.2.2.2.2.1 768 x (wc3 x (by rw [tx_3]; decide)) (fun z => z)).trans p768_x_3
  have fc5 : sp_fx m0 c5 sp_w0 := fc3.tr0 xc5
  have nnc5 : m.nx ≤ c5.nx := Nat.le_trans nnc3 xc5.1
  have tc5 : c5.ty dd = 3 := ttc5
  have gdd : m0.nx ≤ dd := by rw [hdd]; exact fc3.1
  refine sp_putR X (pc := 24) (c := 12) (i := 1) (q := 769) (a := x) rfl (by first | assumption | omega) (by decide) rfl rfl (Or.inr ⟨rfl, rfl, rfl⟩)  fl_SP_21 dX11_init_24 ?_
  obtain ⟨c6, hc6⟩ : ∃ c, c = c5.pR 769 x (some dd) := ⟨_, rfl⟩
  rw [← hc6]
  have Jc6 : sp_J G (sp_Pw P a8) (sp_E0) c6 := by rw [hc6]; exact Jc5.pR (Or.inl (by unfold sp_fk; omega))
  have wc6 : sp_wf c6 := by rw [hc6]; exact wc5
  have fc6 : sp_fx m0 c6 sp_w0 := by rw [hc6]; exact fc5.pR (Or.inr hx0)
  have tx_6 : c6.ty x = 13 := by rw [hc6]; exact tx_5
  have T4_6 : c6.ty (G.sk 4) = 24 := by rw [hc6]; exact T4_5
  have N4_6 : c6.ln (G.sk 4) = 0 := by rw [hc6]; exact N4_5
  have T5_6 : c6.ty (G.sk 5) = 24 := by rw [hc6]; exact T5_5
  have N5_6 : c6.ln (G.sk 5) = 3 := by rw [hc6]; exact N5_5
  have C5_6 : ∀ j, j < 3 → c6.aI (G.sk 5) j = (([111, 117, 116] : List Int32) : List Int32).getD j 0 := by rw [hc6]; exact C5_5
  have T6_6 : c6.ty (G.sk 6) = 24 := by rw [hc6]; exact T6_5
  have N6_6 : c6.ln (G.sk 6) = 4 := by rw [hc6]; exact N6_5
  have C6_6 : ∀ j, j < 4 → c6.aI (G.sk 6) j = (([104, 111, 109, 101] : List Int32) : List Int32).getD j 0 := by rw [hc6]; exact C6_5
  have T7_6 : c6.ty (G.sk 7) = 24 := by rw [hc6]; exact T7_5
  have N7_6 : c6.ln (G.sk 7) = 3 := by rw [hc6]; exact N7_5
  have C7_6 : ∀ j, j < 3 → c6.aI (G.sk 7) j = (([107, 101, 121] : List Int32) : List Int32).getD j 0 := by rw [hc6]; exact C7_5
  have trl_6 : c6.ty rl = 9 := by rw [hc6]; exact trl_5
  have grl_6 : m0.nx ≤ rl := grl_5
  have g1_6 : c6.fI 512 rl = x1 := by rw [hc6]; exact g1_5
  have g2_6 : c6.fI 513 rl = x2 := by rw [hc6]; exact g2_5
  have g3_6 : c6.fI 514 rl = x3 := by rw [hc6]; exact g3_5
  have g4_6 : c6.fI 515 rl = x4 := by rw [hc6]; exact g4_5
  have g5_6 : c6.fI 516 rl = x5 := by rw [hc6]; exact g5_5
  have g6_6 : c6.fI 517 rl = x6 := by rw [hc6]; exact g6_5
  have p768_x_6 : c6.fR 768 x = (some rl) := by rw [hc6, sp_pR_fR, if_neg (fun z => absurd z.1 (by decide))]; exact p768_x_5
  have tdd_6 : c6.ty dd = 3 := by rw [hc6]; exact tc5
  have gdd_6 : m0.nx ≤ dd := gdd
  have t8_6 : c6.ty a8 = 20 := by rw [hc6]; exact t8c5
  have l8_6 : c6.ln a8 = 160 := by rw [hc6]; exact l8c5
  have d1_6 : c6.fR 128 dd = some a8 := by rw [hc6, sp_pR_fR, if_neg (fun z => absurd z.1 (by decide))]; exact d1c5
  have d2_6 : c6.fI 129 dd = 0 := by rw [hc6]; exact d2c5
  have nnc6 : m.nx ≤ c6.nx := by rw [hc6]; exact nnc5
  have p769_x_6 : c6.fR 769 x = (some dd) := by rw [hc6, sp_pR_fR, if_pos ⟨rfl, rfl⟩]
  clear hc6
  clear tx_5 T4_5 N4_5 T5_5 N5_5 C5_5 T6_5 N6_5 C6_5 T7_5 N7_5 C7_5 trl_5 grl_5 g1_5 g2_5 g3_5 g4_5 g5_5 g6_5 p768_x_5
  refine sp_aload_n X (pc := 27) (r := some x) dX11_init_27 rfl rfl ?_
  obtain ⟨a2, ha2⟩ : ∃ a, a = c6.nx := ⟨_, rfl⟩
  refine sp_new X (pc := 28) (c := 0) (N := 3) (by decide) rfl cl_SP_25 in_0 it_0 (by decide) (by decide) dX11_init_28 ?_
  rw [← ha2]
  refine sp_ghost X a2 8 (by rw [ha2, sp_newO_ty, if_pos rfl]; decide) (by rw [ha2, sp_newO_ty, if_pos rfl]; decide) ?_
  refine sp_dup X (pc := 31) dX11_init_31 (sp_cat_rf _) ?_
  refine sp_callI X (pc := 32) (mc := 0) (ms := 0) (b := a2) (r := some a2) (As := []) (rest := [va_rf (some a2), va_rf (some x)]) (c_List_init l G _ (o := a2) hG (by show (c6.newO 0).ty a2 = _; rw [ha2, sp_newO_ty, if_pos rfl])) ok_List_init rfl rfl lk_SP_27 rfl rfl (by simp [sp_cat_rf, sp_cat_i, sp_cat_l]) (Nat.le_of_ble_eq_true rfl) (Nat.le_of_ble_eq_true rfl) (Nat.zero_le _) (Nat.zero_le _) dX11_init_32 (sp_kV fun m32 hp32 => ?_)
  subst hp32
  obtain ⟨c7, hc7⟩ : ∃ c, c = (((c6.newO 0).gh a2 8).pI 0 a2 0).pR 1 a2 (some (G.sk 3)) := ⟨_, rfl⟩
  rw [show (((c6.newO 0).gh a2 8).pI 0 a2 0).pR 1 a2 (some (G.sk 3)) = c7 from hc7.symm]
  have jc7 : sp_J G (sp_Pw P a8) (sp_E1 (sp_E0) a2) c7 := by
    subst ha2; rw [hc7]
    exact ((Jc6.newO wc6 0 8).pI (by decide)).pR (Or.inr (Or.inr rfl))
  have tc7 : c7.ty a2 = 1 := by
    subst ha2; rw [hc7]
    show (c6.newO 0).ty c6.nx = 1
    rw [sp_newO_ty, if_pos rfl]
  have lc7 : c7.ln a2 = 8 := by
    subst ha2; rw [hc7]
    show (if c6.nx = c6.nx then 8 else _) = _
    rw [if_pos rfl]
  have ec7 : c7.fR 1 a2 = some (G.sk 3) := by rw [hc7, sp_pR_fR, if_pos ⟨rfl, rfl⟩]
  have sc7 : c7.fI 2 a2 = 0 := by
    subst ha2; rw [hc7]
    show (((c6.newO 0).gh c6.nx 8).pI 0 c6.nx 0).fI 2 c6.nx = 0
    rw [sp_pI_fI, if_neg (by simp)]
    show (c6.newO 0).fI 2 c6.nx = 0
    rw [sp_newO_fI, if_pos rfl]
  obtain ⟨Jc7, Lc7⟩ := jc7.list tc7 lc7 (by unfold sp_rl; omega) ec7 sc7
  have wc7 : sp_wf c7 := by rw [hc7]; exact wc6.newO 0
  have xc7 : sp_fx c6 c7 sp_w0 := by
    subst ha2; rw [hc7]
    exact (((((sp_fx.refl c6 sp_w0).newO 0).gh (Nat.le_refl _)).pI (Or.inr (Nat.le_refl _))).pR (Or.inr (Nat.le_refl _)))
  clear hc7 jc7 ec7 sc7
  have ga2 : m0.nx ≤ a2 := by rw [ha2]; exact fc6.1
  have tx_7 := xc7.ty wc6 tx_6 (by decide)
  have T4_7 := xc7.ty wc6 T4_6 (by decide)
  have N4_7 := (xc7.ln wc6 T4_6 (by decide)).trans N4_6
  have T5_7 := xc7.ty wc6 T5_6 (by decide)
  have N5_7 := (xc7.ln wc6 T5_6 (by decide)).trans N5_6
  have C5_7 : ∀ j, j < 3 → c7.aI (G.sk 5) j = (([111, 117, 116] : List Int32) : List Int32).getD j 0 := fun j hj => by rw [(xc7.2.2.2.2.2 (G.sk 5) (wc6 (G.sk 5) (by rw [T5_6]; decide)) (fun z => z)).1]; exact C5_6 j hj
  have T6_7 := xc7.ty wc6 T6_6 (by decide)
  have N6_7 := (xc7.ln wc6 T6_6 (by decide)).trans N6_6
  have C6_7 : ∀ j, j < 4 → c7.aI (G.sk 6) j = (([104, 111, 109, 101] : List Int32) : List Int32).getD j 0 := fun j hj => by rw [(xc7.2.2.2.2.2 (G.sk 6) (wc6 (G.sk 6) (by rw [T6_6]; decide)) (fun z => z)).1]; exact C6_6 j hj
  have T7_7 := xc7.ty wc6 T7_6 (by decide)
  have N7_7 := (xc7.ln wc6 T7_6 (by decide)).trans N7_6
  have C7_7 : ∀ j, j < 3 → c7.aI (G.sk 7) j = (([107, 101, 121] : List Int32) : List Int32).getD j 0 := fun j hj => by rw [(xc7.2.2.2.2.2 (G.sk 7) (wc6 (G.sk 7) (by rw [T7_6]; decide)) (fun z => z)).1]; exact C7_6 j hj
  have trl_7 := xc7.ty wc6 trl_6 (by decide)
  have grl_7 := grl_6
  have g1_7 := (xc7.2.2.1 512 rl (wc6 rl (by rw [trl_6]; decide)) (fun z => z)).trans g1_6
  have g2_7 := (xc7.2.2.1 513 rl (wc6 rl (by rw [trl_6]; decide)) (fun z => z)).trans g2_6
  have g3_7 := (xc7.2.2.1 514 rl (wc6 rl (by rw [trl_6]; decide)) (fun z => z)).trans g3_6
  have g4_7 := (xc7.2.2.1 515 rl (wc6 rl (by rw [trl_6]; decide)) (fun z => z)).trans g4_6
  have g5_7 := (xc7.2.2.1 516 rl (wc6 rl (by rw [trl_6]; decide)) (fun z => z)).trans g5_6
  have g6_7 := (xc7.2.2.1 517 rl (wc6 rl (by rw [trl_6]; decide)) (fun z => z)).trans g6_6
  have p768_x_7 := (xc7.2.2.2.2.1 768 x (wc6 x (by rw [tx_6]; decide)) (fun z => z)).trans p768_x_6
  have tdd_7 := xc7.ty wc6 tdd_6 (by decide)
  have gdd_7 := gdd_6
  have t8_7 := xc7.ty wc6 t8_6 (by decide)
  have l8_7 := (xc7.ln wc6 t8_6 (by decide)).trans l8_6
  have d1_7 := (xc7.2.2.2.2.1 128 dd (wc6 dd (by rw [tdd_6]; decide)) (fun z => z)).trans d1_6
  have d2_7 := (xc7.2.2.1 129 dd (wc6 dd (by rw [tdd_6]; decide)) (fun z => z)).trans d2_6
  have p769_x_7 := (xc7.2.2.2.2.1 769 x (wc6 x (by rw [tx_6]; decide)) (fun z => z)).trans p769_x_6
  have fc7 : sp_fx m0 c7 sp_w0 := fc6.tr0 xc7
  have nnc7 : m.nx ≤ c7.nx := Nat.le_trans nnc6 xc7.1
  clear tx_6 T4_6 N4_6 T5_6 N5_6 C5_6 T6_6 N6_6 C6_6 T7_6 N7_6 C7_6 trl_6 grl_6 g1_6 g2_6 g3_6 g4_6 g5_6 g6_6 p768_x_6 tdd_6 gdd_6 t8_6 l8_6 d1_6 d2_6 p769_x_6
  refine sp_putR X (pc := 35) (c := 12) (i := 2) (q := 770) (a := x) rfl (by first | assumption | omega) (by decide) rfl rfl (Or.inr ⟨rfl, rfl, rfl⟩)  fl_SP_28 dX11_init_35 ?_
  obtain ⟨c8, hc8⟩ : ∃ c, c = c7.pR 770 x (some a2) := ⟨_, rfl⟩
  rw [← hc8]
  have Jc8 : sp_J G (sp_Pw P a8) (sp_E0) c8 := by rw [hc8]; exact Jc7.pR (Or.inl (by unfold sp_fk; omega))
  have wc8 : sp_wf c8 := by rw [hc8]; exact wc7
  have fc8 : sp_fx m0 c8 sp_w0 := by rw [hc8]; exact fc7.pR (Or.inr hx0)
  have tx_8 : c8.ty x = 13 := by rw [hc8]; exact tx_7
  have T4_8 : c8.ty (G.sk 4) = 24 := by rw [hc8]; exact T4_7
  have N4_8 : c8.ln (G.sk 4) = 0 := by rw [hc8]; exact N4_7
  have T5_8 : c8.ty (G.sk 5) = 24 := by rw [hc8]; exact T5_7
  have N5_8 : c8.ln (G.sk 5) = 3 := by rw [hc8]; exact N5_7
  have C5_8 : ∀ j, j < 3 → c8.aI (G.sk 5) j = (([111, 117, 116] : List Int32) : List Int32).getD j 0 := by rw [hc8]; exact C5_7
  have T6_8 : c8.ty (G.sk 6) = 24 := by rw [hc8]; exact T6_7
  have N6_8 : c8.ln (G.sk 6) = 4 := by rw [hc8]; exact N6_7
  have C6_8 : ∀ j, j < 4 → c8.aI (G.sk 6) j = (([104, 111, 109, 101] : List Int32) : List Int32).getD j 0 := by rw [hc8]; exact C6_7
  have T7_8 : c8.ty (G.sk 7) = 24 := by rw [hc8]; exact T7_7
  have N7_8 : c8.ln (G.sk 7) = 3 := by rw [hc8]; exact N7_7
  have C7_8 : ∀ j, j < 3 → c8.aI (G.sk 7) j = (([107, 101, 121] : List Int32) : List Int32).getD j 0 := by rw [hc8]; exact C7_7
  have trl_8 : c8.ty rl = 9 := by rw [hc8]; exact trl_7
  have grl_8 : m0.nx ≤ rl := grl_7
  have g1_8 : c8.fI 512 rl = x1 := by rw [hc8]; exact g1_7
  have g2_8 : c8.fI 513 rl = x2 := by rw [hc8]; exact g2_7
  have g3_8 : c8.fI 514 rl = x3 := by rw [hc8]; exact g3_7
  have g4_8 : c8.fI 515 rl = x4 := by rw [hc8]; exact g4_7
  have g5_8 : c8.fI 516 rl = x5 := by rw [hc8]; exact g5_7
  have g6_8 : c8.fI 517 rl = x6 := by rw [hc8]; exact g6_7
  have p768_x_8 : c8.fR 768 x = (some rl) := by rw [hc8, sp_pR_fR, if_neg (fun z => absurd z.1 (by decide))]; exact p768_x_7
  have tdd_8 : c8.ty dd = 3 := by rw [hc8]; exact tdd_7
  have gdd_8 : m0.nx ≤ dd := gdd_7
  have t8_8 : c8.ty a8 = 20 := by rw [hc8]; exact t8_7
  have l8_8 : c8.ln a8 = 160 := by rw [hc8]; exact l8_7
  have d1_8 : c8.fR 128 dd = some a8 := by rw [hc8, sp_pR_fR, if_neg (fun z => absurd z.1 (by decide))]; exact d1_7
  have d2_8 : c8.fI 129 dd = 0 := by rw [hc8]; exact d2_7
  have p769_x_8 : c8.fR 769 x = (some dd) := by rw [hc8, sp_pR_fR, if_neg (fun z => absurd z.1 (by decide))]; exact p769_x_7
  have ta2_8 : c8.ty a2 = 1 := by rw [hc8]; exact tc7
  have la2_8 : c8.ln a2 = 8 := by rw [hc8]; exact lc7
  have La2_8 : sp_li G c8 a2 (G.sk 3) 0 := by rw [hc8]; exact Lc7.pR (by decide)
  have ga2_8 : m0.nx ≤ a2 := ga2
  have nnc8 : m.nx ≤ c8.nx := by rw [hc8]; exact nnc7
  have p770_x_8 : c8.fR 770 x = (some a2) := by rw [hc8, sp_pR_fR, if_pos ⟨rfl, rfl⟩]
  clear hc8
  clear tx_7 T4_7 N4_7 T5_7 N5_7 C5_7 T6_7 N6_7 C6_7 T7_7 N7_7 C7_7 trl_7 grl_7 g1_7 g2_7 g3_7 g4_7 g5_7 g6_7 p768_x_7 tdd_7 gdd_7 t8_7 l8_7 d1_7 d2_7 p769_x_7
  refine sp_aload_n X (pc := 38) (r := some x) dX11_init_38 rfl rfl ?_
  obtain ⟨a3, ha3⟩ : ∃ a, a = c8.nx := ⟨_, rfl⟩
  refine sp_new X (pc := 39) (c := 0) (N := 3) (by decide) rfl cl_SP_25 in_0 it_0 (by decide) (by decide) dX11_init_39 ?_
  rw [← ha3]
  refine sp_ghost X a3 18 (by rw [ha3, sp_newO_ty, if_pos rfl]; decide) (by rw [ha3, sp_newO_ty, if_pos rfl]; decide) ?_
  refine sp_dup X (pc := 42) dX11_init_42 (sp_cat_rf _) ?_
  refine sp_callI X (pc := 43) (mc := 0) (ms := 0) (b := a3) (r := some a3) (As := []) (rest := [va_rf (some a3), va_rf (some x)]) (c_List_init l G _ (o := a3) hG (by show (c8.newO 0).ty a3 = _; rw [ha3, sp_newO_ty, if_pos rfl])) ok_List_init rfl rfl lk_SP_27 rfl rfl (by simp [sp_cat_rf, sp_cat_i, sp_cat_l]) (Nat.le_of_ble_eq_true rfl) (Nat.le_of_ble_eq_true rfl) (Nat.zero_le _) (Nat.zero_le _) dX11_init_43 (sp_kV fun m43 hp43 => ?_)
  subst hp43
  obtain ⟨c9, hc9⟩ : ∃ c, c = (((c8.newO 0).gh a3 18).pI 0 a3 0).pR 1 a3 (some (G.sk 3)) := ⟨_, rfl⟩
  rw [show (((c8.newO 0).gh a3 18).pI 0 a3 0).pR 1 a3 (some (G.sk 3)) = c9 from hc9.symm]
  have jc9 : sp_J G (sp_Pw P a8) (sp_E1 (sp_E0) a3) c9 := by
    subst ha3; rw [hc9]
    exact ((Jc8.newO wc8 0 18).pI (by decide)).pR (Or.inr (Or.inr rfl))
  have tc9 : c9.ty a3 = 1 := by
    subst ha3; rw [hc9]
    show (c8.newO 0).ty c8.nx = 1
    rw [sp_newO_ty, if_pos rfl]
  have lc9 : c9.ln a3 = 18 := by
    subst ha3; rw [hc9]
    show (if c8.nx = c8.nx then 18 else _) = _
    rw [if_pos rfl]
  have ec9 : c9.fR 1 a3 = some (G.sk 3) := by rw [hc9, sp_pR_fR, if_pos ⟨rfl, rfl⟩]
  have sc9 : c9.fI 2 a3 = 0 := by
    subst ha3; rw [hc9]
    show (((c8.newO 0).gh c8.nx 18).pI 0 c8.nx 0).fI 2 c8.nx = 0
    rw [sp_pI_fI, if_neg (by simp)]
    show (c8.newO 0).fI 2 c8.nx = 0
    rw [sp_newO_fI, if_pos rfl]
  obtain ⟨Jc9, Lc9⟩ := jc9.list tc9 lc9 (by unfold sp_rl; omega) ec9 sc9
  have wc9 : sp_wf c9 := by rw [hc9]; exact wc8.newO 0
  have xc9 : sp_fx c8 c9 sp_w0 := by
    subst ha3; rw [hc9]
    exact (((((sp_fx.refl c8 sp_w0).newO 0).gh (Nat.le_refl _)).pI (Or.inr (Nat.le_refl _))).pR (Or.inr (Nat.le_refl _)))
  clear hc9 jc9 ec9 sc9
  have ga3 : m0.nx ≤ a3 := by rw [ha3]; exact fc8.1
  have tx_9 := xc9.ty wc8 tx_8 (by decide)
  have T4_9 := xc9.ty wc8 T4_8 (by decide)
  have N4_9 := (xc9.ln wc8 T4_8 (by decide)).trans N4_8
  have T5_9 := xc9.ty wc8 T5_8 (by decide)
  have N5_9 := (xc9.ln wc8 T5_8 (by decide)).trans N5_8
  have C5_9 : ∀ j, j < 3 → c9.aI (G.sk 5) j = (([111, 117, 116] : List Int32) : List Int32).getD j 0 := fun j hj => by rw [(xc9.2.2.2.2.2 (G.sk 5) (wc8 (G.sk 5) (by rw [T5_8]; decide)) (fun z => z)).1]; exact C5_8 j hj
  have T6_9 := xc9.ty wc8 T6_8 (by decide)
  have N6_9 := (xc9.ln wc8 T6_8 (by decide)).trans N6_8
  have C6_9 : ∀ j, j < 4 → c9.aI (G.sk 6) j = (([104, 111, 109, 101] : List Int32) : List Int32).getD j 0 := fun j hj => by rw [(xc9.2.2.2.2.2 (G.sk 6) (wc8 (G.sk 6) (by rw [T6_8]; decide)) (fun z => z)).1]; exact C6_8 j hj
  have T7_9 := xc9.ty wc8 T7_8 (by decide)
  have N7_9 := (xc9.ln wc8 T7_8 (by decide)).trans N7_8
  have C7_9 : ∀ j, j < 3 → c9.aI (G.sk 7) j = (([107, 101, 121] : List Int32) : List Int32).getD j 0 := fun j hj => by rw [(xc9.2.2.2.2.2 (G.sk 7) (wc8 (G.sk 7) (by rw [T7_8]; decide)) (fun z => z)).1]; exact C7_8 j hj
  have trl_9 := xc9.ty wc8 trl_8 (by decide)
  have grl_9 := grl_8
  have g1_9 := (xc9.2.2.1 512 rl (wc8 rl (by rw [trl_8]; decide)) (fun z => z)).trans g1_8
  have g2_9 := (xc9.2.2.1 513 rl (wc8 rl (by rw [trl_8]; decide)) (fun z => z)).trans g2_8
  have g3_9 := (xc9.2.2.1 514 rl (wc8 rl (by rw [trl_8]; decide)) (fun z => z)).trans g3_8
  have g4_9 := (xc9.2.2.1 515 rl (wc8 rl (by rw [trl_8]; decide)) (fun z => z)).trans g4_8
  have g5_9 := (xc9.2.2.1 516 rl (wc8 rl (by rw [trl_8]; decide)) (fun z => z)).trans g5_8
  have g6_9 := (xc9.2.2.1 517 rl (wc8 rl (by rw [trl_8]; decide)) (fun z => z)).trans g6_8
  have p768_x_9 := (xc9.2.2.2.2.1 768 x (wc8 x (by rw [tx_8]; decide)) (fun z => z)).trans p768_x_8
  have tdd_9 := xc9.ty wc8 tdd_8 (by decide)
  have gdd_9 := gdd_8
  have t8_9 := xc9.ty wc8 t8_8 (by decide)
  have l8_9 := (xc9.ln wc8 t8_8 (by decide)).trans l8_8
  have d1_9 := (xc9.2.2.2.2.1 128 dd (wc8 dd (by rw [tdd_8]; decide)) (fun z => z)).trans d1_8
  have d2_9 := (xc9.2.2.1 129 dd (wc8 dd (by rw [tdd_8]; decide)) (fun z => z)).trans d2_8
  have p769_x_9 := (xc9.2.2.2.2.1 769 x (wc8 x (by rw [tx_8]; decide)) (fun z => z)).trans p769_x_8
  have ta2_9 := xc9.ty wc8 ta2_8 (by decide)
  have la2_9 := (xc9.ln wc8 ta2_8 (by decide)).trans la2_8
  have La2_9 := xc9.li wc8 La2_8 (fun z => z) (fun z => z)
  have ga2_9 := ga2_8
  have p770_x_9 := (xc9.2.2.2.2.1 770 x (wc8 x (by rw [tx_8]; decide)) (fun z => z)).trans p770_x_8
  have fc9 : sp_fx m0 c9 sp_w0 := fc8.tr0 xc9
  have nnc9 : m.nx ≤ c9.nx := Nat.le_trans nnc8 xc9.1
  clear tx_8 T4_8 N4_8 T5_8 N5_8 C5_8 T6_8 N6_8 C6_8 T7_8 N7_8 C7_8 trl_8 grl_8 g1_8 g2_8 g3_8 g4_8 g5_8 g6_8 p768_x_8 tdd_8 gdd_8 t8_8 l8_8 d1_8 d2_8 p769_x_8 ta2_8 la2_8 La2_8 ga2_8 p770_x_8
  refine sp_putR X (pc := 46) (c := 12) (i := 3) (q := 771) (a := x) rfl (by first | assumption | omega) (by decide) rfl rfl (Or.inr ⟨rfl, rfl, rfl⟩)  fl_SP_32 dX11_init_46 ?_
  obtain ⟨c10, hc10⟩ : ∃ c, c = c9.pR 771 x (some a3) := ⟨_, rfl⟩
  rw [← hc10]
  have Jc10 : sp_J G (sp_Pw P a8) (sp_E0) c10 := by rw [hc10]; exact Jc9.pR (Or.inl (by unfold sp_fk; omega))
  have wc10 : sp_wf c10 := by rw [hc10]; exact wc9
  have fc10 : sp_fx m0 c10 sp_w0 := by rw [hc10]; exact fc9.pR (Or.inr hx0)
  have tx_10 : c10.ty x = 13 := by rw [hc10]; exact tx_9
  have T4_10 : c10.ty (G.sk 4) = 24 := by rw [hc10]; exact T4_9
  have N4_10 : c10.ln (G.sk 4) = 0 := by rw [hc10]; exact N4_9
  have T5_10 : c10.ty (G.sk 5) = 24 := by rw [hc10]; exact T5_9
  have N5_10 : c10.ln (G.sk 5) = 3 := by rw [hc10]; exact N5_9
  have C5_10 : ∀ j, j < 3 → c10.aI (G.sk 5) j = (([111, 117, 116] : List Int32) : List Int32).getD j 0 := by rw [hc10]; exact C5_9
  have T6_10 : c10.ty (G.sk 6) = 24 := by rw [hc10]; exact T6_9
  have N6_10 : c10.ln (G.sk 6) = 4 := by rw [hc10]; exact N6_9
  have C6_10 : ∀ j, j < 4 → c10.aI (G.sk 6) j = (([104, 111, 109, 101] : List Int32) : List Int32).getD j 0 := by rw [hc10]; exact C6_9
  have T7_10 : c10.ty (G.sk 7) = 24 := by rw [hc10]; exact T7_9
  have N7_10 : c10.ln (G.sk 7) = 3 := by rw [hc10]; exact N7_9
  have C7_10 : ∀ j, j < 3 → c10.aI (G.sk 7) j = (([107, 101, 121] : List Int32) : List Int32).getD j 0 := by rw [hc10]; exact C7_9
  have trl_10 : c10.ty rl = 9 := by rw [hc10]; exact trl_9
  have grl_10 : m0.nx ≤ rl := grl_9
  have g1_10 : c10.fI 512 rl = x1 := by rw [hc10]; exact g1_9
  have g2_10 : c10.fI 513 rl = x2 := by rw [hc10]; exact g2_9
  have g3_10 : c10.fI 514 rl = x3 := by rw [hc10]; exact g3_9
  have g4_10 : c10.fI 515 rl = x4 := by rw [hc10]; exact g4_9
  have g5_10 : c10.fI 516 rl = x5 := by rw [hc10]; exact g5_9
  have g6_10 : c10.fI 517 rl = x6 := by rw [hc10]; exact g6_9
  have p768_x_10 : c10.fR 768 x = (some rl) := by rw [hc10, sp_pR_fR, if_neg (fun z => absurd z.1 (by decide))]; exact p768_x_9
  have tdd_10 : c10.ty dd = 3 := by rw [hc10]; exact tdd_9
  have gdd_10 : m0.nx ≤ dd := gdd_9
  have t8_10 : c10.ty a8 = 20 := by rw [hc10]; exact t8_9
  have l8_10 : c10.ln a8 = 160 := by rw [hc10]; exact l8_9
  have d1_10 : c10.fR 128 dd = some a8 := by rw [hc10, sp_pR_fR, if_neg (fun z => absurd z.1 (by decide))]; exact d1_9
  have d2_10 : c10.fI 129 dd = 0 := by rw [hc10]; exact d2_9
  have p769_x_10 : c10.fR 769 x = (some dd) := by rw [hc10, sp_pR_fR, if_neg (fun z => absurd z.1 (by decide))]; exact p769_x_9
  have ta2_10 : c10.ty a2 = 1 := by rw [hc10]; exact ta2_9
  have la2_10 : c10.ln a2 = 8 := by rw [hc10]; exact la2_9
  have La2_10 : sp_li G c10 a2 (G.sk 3) 0 := by rw [hc10]; exact La2_9.pR (by decide)
  have ga2_10 : m0.nx ≤ a2 := ga2_9
  have p770_x_10 : c10.fR 770 x = (some a2) := by rw [hc10, sp_pR_fR, if_neg (fun z => absurd z.1 (by decide))]; exact p770_x_9
  have ta3_10 : c10.ty a3 = 1 := by rw [hc10]; exact tc9
  have la3_10 : c10.ln a3 = 18 := by rw [hc10]; exact lc9
  have La3_10 : sp_li G c10 a3 (G.sk 3) 0 := by rw [hc10]; exact Lc9.pR (by decide)
  have ga3_10 : m0.nx ≤ a3 := ga3
  have nnc10 : m.nx ≤ c10.nx := by rw [hc10]; exact nnc9
  have p771_x_10 : c10.fR 771 x = (some a3) := by rw [hc10, sp_pR_fR, if_pos ⟨rfl, rfl⟩]
  clear hc10
  clear tx_9 T4_9 N4_9 T5_9 N5_9 C5_9 T6_9 N6_9 C6_9 T7_9 N7_9 C7_9 trl_9 grl_9 g1_9 g2_9 g3_9 g4_9 g5_9 g6_9 p768_x_9 tdd_9 gdd_9 t8_9 l8_9 d1_9 d2_9 p769_x_9 ta2_9 la2_9 La2_9 ga2_9 p770_x_9
  refine sp_aload_n X (pc := 49) (r := some x) dX11_init_49 rfl rfl ?_
  obtain ⟨a4, ha4⟩ : ∃ a, a = c10.nx := ⟨_, rfl⟩
  refine sp_new X (pc := 50) (c := 0) (N := 3) (by decide) rfl cl_SP_25 in_0 it_0 (by decide) (by decide) dX11_init_50 ?_
  rw [← ha4]
  refine sp_ghost X a4 4 (by rw [ha4, sp_newO_ty, if_pos rfl]; decide) (by rw [ha4, sp_newO_ty, if_pos rfl]; decide) ?_
  refine sp_dup X (pc := 53) dX11_init_53 (sp_cat_rf _) ?_
  refine sp_callI X (pc := 54) (mc := 0) (ms := 0) (b := a4) (r := some a4) (As := []) (rest := [va_rf (some a4), va_rf (some x)]) (c_List_init l G _ (o := a4) hG (by show (c10.newO 0).ty a4 = _; rw [ha4, sp_newO_ty, if_pos rfl])) ok_List_init rfl rfl lk_SP_27 rfl rfl (by simp [sp_cat_rf, sp_cat_i, sp_cat_l]) (Nat.le_of_ble_eq_true rfl) (Nat.le_of_ble_eq_true rfl) (Nat.zero_le _) (Nat.zero_le _) dX11_init_54 (sp_kV fun m54 hp54 => ?_)
  subst hp54
  obtain ⟨c11, hc11⟩ : ∃ c, c = (((c10.newO 0).gh a4 4).pI 0 a4 0).pR 1 a4 (some (G.sk 3)) := ⟨_, rfl⟩
  rw [show (((c10.newO 0).gh a4 4).pI 0 a4 0).pR 1 a4 (some (G.sk 3)) = c11 from hc11.symm]
  have jc11 : sp_J G (sp_Pw P a8) (sp_E1 (sp_E0) a4) c11 := by
    subst ha4; rw [hc11]
    exact ((Jc10.newO wc10 0 4).pI (by decide)).pR (Or.inr (Or.inr rfl))
  have tc11 : c11.ty a4 = 1 := by
    subst ha4; rw [hc11]
    show (c10.newO 0).ty c10.nx = 1
    rw [sp_newO_ty, if_pos rfl]
  have lc11 : c11.ln a4 = 4 := by
    subst ha4; rw [hc11]
    show (if c10.nx = c10.nx then 4 else _) = _
    rw [if_pos rfl]
  have ec11 : c11.fR 1 a4 = some (G.sk 3) := by rw [hc11, sp_pR_fR, if_pos ⟨rfl, rfl⟩]
  have sc11 : c11.fI 2 a4 = 0 := by
    subst ha4; rw [hc11]
    show (((c10.newO 0).gh c10.nx 4).pI 0 c10.nx 0).fI 2 c10.nx = 0
    rw [sp_pI_fI, if_neg (by simp)]
    show (c10.newO 0).fI 2 c10.nx = 0
    rw [sp_newO_fI, if_pos rfl]
  obtain ⟨Jc11, Lc11⟩ := jc11.list tc11 lc11 (by unfold sp_rl; omega) ec11 sc11
  have wc11 : sp_wf c11 := by rw [hc11]; exact wc10.newO 0
  have xc11 : sp_fx c10 c11 sp_w0 := by
    subst ha4; rw [hc11]
    exact (((((sp_fx.refl c10 sp_w0).newO 0).gh (Nat.le_refl _)).pI (Or.inr (Nat.le_refl _))).pR (Or.inr (Nat.le_refl _)))
  clear hc11 jc11 ec11 sc11
  have ga4 : m0.nx ≤ a4 := by rw [ha4]; exact fc10.1
  have tx_11 := xc11.ty wc10 tx_10 (by decide)
  have T4_11 := xc11.ty wc10 T4_10 (by decide)
  have N4_11 := (xc11.ln wc10 T4_10 (by decide)).trans N4_10
  have T5_11 := xc11.ty wc10 T5_10 (by decide)
  have N5_11 := (xc11.ln wc10 T5_10 (by decide)).trans N5_10
  have C5_11 : ∀ j, j < 3 → c11.aI (G.sk 5) j = (([111, 117, 116] : List Int32) : List Int32).getD j 0 := fun j hj => by rw [(xc11.2.2.2.2.2 (G.sk 5) (wc10 (G.sk 5) (by rw [T5_10]; decide)) (fun z => z)).1]; exact C5_10 j hj
  have T6_11 := xc11.ty wc10 T6_10 (by decide)
  have N6_11 := (xc11.ln wc10 T6_10 (by decide)).trans N6_10
  have C6_11 : ∀ j, j < 4 → c11.aI (G.sk 6) j = (([104, 111, 109, 101] : List Int32) : List Int32).getD j 0 := fun j hj => by rw [(xc11.2.2.2.2.2 (G.sk 6) (wc10 (G.sk 6) (by rw [T6_10]; decide)) (fun z => z)).1]; exact C6_10 j hj
  have T7_11 := xc11.ty wc10 T7_10 (by decide)
  have N7_11 := (xc11.ln wc10 T7_10 (by decide)).trans N7_10
  have C7_11 : ∀ j, j < 3 → c11.aI (G.sk 7) j = (([107, 101, 121] : List Int32) : List Int32).getD j 0 := fun j hj => by rw [(xc11.2.2.2.2.2 (G.sk 7) (wc10 (G.sk 7) (by rw [T7_10]; decide)) (fun z => z)).1]; exact C7_10 j hj
  have trl_11 := xc11.ty wc10 trl_10 (by decide)
  have grl_11 := grl_10
  have g1_11 := (xc11.2.2.1 512 rl (wc10 rl (by rw [trl_10]; decide)) (fun z => z)).trans g1_10
  have g2_11 := (xc11.2.2.1 513 rl (wc10 rl (by rw [trl_10]; decide)) (fun z => z)).trans g2_10
  have g3_11 := (xc11.2.2.1 514 rl (wc10 rl (by rw [trl_10]; decide)) (fun z => z)).trans g3_10
  have g4_11 := (xc11.2.2.1 515 rl (wc10 rl (by rw [trl_10]; decide)) (fun z => z)).trans g4_10
  have g5_11 := (xc11.2.2.1 516 rl (wc10 rl (by rw [trl_10]; decide)) (fun z => z)).trans g5_10
  have g6_11 := (xc11.2.2.1 517 rl (wc10 rl (by rw [trl_10]; decide)) (fun z => z)).trans g6_10
  have p768_x_11 := (xc11.2.2.2.2.1 768 x (wc10 x (by rw [tx_10]; decide)) (fun z => z)).trans p768_x_10
  have tdd_11 := xc11.ty wc10 tdd_10 (by decide)
  have gdd_11 := gdd_10
  have t8_11 := xc11.ty wc10 t8_10 (by decide)
  have l8_11 := (xc11.ln wc10 t8_10 (by decide)).trans l8_10
  have d1_11 := (xc11.2.2.2.2.1 128 dd (wc10 dd (by rw [tdd_10]; decide)) (fun z => z)).trans d1_10
  have d2_11 := (xc11.2.2.1 129 dd (wc10 dd (by rw [tdd_10]; decide)) (fun z => z)).trans d2_10
  have p769_x_11 := (xc11.2.2.2.2.1 769 x (wc10 x (by rw [tx_10]; decide)) (fun z => z)).trans p769_x_10
  have ta2_11 := xc11.ty wc10 ta2_10 (by decide)
  have la2_11 := (xc11.ln wc10 ta2_10 (by decide)).trans la2_10
  have La2_11 := xc11.li wc10 La2_10 (fun z => z) (fun z => z)
  have ga2_11 := ga2_10
  have p770_x_11 := (xc11.2.2.2.2.1 770 x (wc10 x (by rw [tx_10]; decide)) (fun z => z)).trans p770_x_10
  have ta3_11 := xc11.ty wc10 ta3_10 (by decide)
  have la3_11 := (xc11.ln wc10 ta3_10 (by decide)).trans la3_10
  have La3_11 := xc11.li wc10 La3_10 (fun z => z) (fun z => z)
  have ga3_11 := ga3_10
  have p771_x_11 := (xc11.2.2.2.2.1 771 x (wc10 x (by rw [tx_10]; decide)) (fun z => z)).trans p771_x_10
  have fc11 : sp_fx m0 c11 sp_w0 := fc10.tr0 xc11
  have nnc11 : m.nx ≤ c11.nx := Nat.le_trans nnc10 xc11.1
  clear tx_10 T4_10 N4_10 T5_10 N5_10 C5_10 T6_10 N6_10 C6_10 T7_10 N7_10 C7_10 trl_10 grl_10 g1_10 g2_10 g3_10 g4_10 g5_10 g6_10 p768_x_10 tdd_10 gdd_10 t8_10 l8_10 d1_10 d2_10 p769_x_10 ta2_10 la2_10 La2_10 ga2_10 p770_x_10 ta3_10 la3_10 La3_10 ga3_10 p771_x_10
  refine sp_putR X (pc := 57) (c := 12) (i := 4) (q := 772) (a := x) rfl (by first | assumption | omega) (by decide) rfl rfl (Or.inr ⟨rfl, rfl, rfl⟩)  fl_SP_35 dX11_init_57 ?_
  obtain ⟨c12, hc12⟩ : ∃ c, c = c11.pR 772 x (some a4) := ⟨_, rfl⟩
  rw [← hc12]
  have Jc12 : sp_J G (sp_Pw P a8) (sp_E0) c12 := by rw [hc12]; exact Jc11.pR (Or.inl (by unfold sp_fk; omega))
  have wc12 : sp_wf c12 := by rw [hc12]; exact wc11
  have fc12 : sp_fx m0 c12 sp_w0 := by rw [hc12]; exact fc11.pR (Or.inr hx0)
  have tx_12 : c12.ty x = 13 := by rw [hc12]; exact tx_11
  have T4_12 : c12.ty (G.sk 4) = 24 := by rw [hc12]; exact T4_11
  have N4_12 : c12.ln (G.sk 4) = 0 := by rw [hc12]; exact N4_11
  have T5_12 : c12.ty (G.sk 5) = 24 := by rw [hc12]; exact T5_11
  have N5_12 : c12.ln (G.sk 5) = 3 := by rw [hc12]; exact N5_11
  have C5_12 : ∀ j, j < 3 → c12.aI (G.sk 5) j = (([111, 117, 116] : List Int32) : List Int32).getD j 0 := by rw [hc12]; exact C5_11
  have T6_12 : c12.ty (G.sk 6) = 24 := by rw [hc12]; exact T6_11
  have N6_12 : c12.ln (G.sk 6) = 4 := by rw [hc12]; exact N6_11
  have C6_12 : ∀ j, j < 4 → c12.aI (G.sk 6) j = (([104, 111, 109, 101] : List Int32) : List Int32).getD j 0 := by rw [hc12]; exact C6_11
  have T7_12 : c12.ty (G.sk 7) = 24 := by rw [hc12]; exact T7_11
  have N7_12 : c12.ln (G.sk 7) = 3 := by rw [hc12]; exact N7_11
  have C7_12 : ∀ j, j < 3 → c12.aI (G.sk 7) j = (([107, 101, 121] : List Int32) : List Int32).getD j 0 := by rw [hc12]; exact C7_11
  have trl_12 : c12.ty rl = 9 := by rw [hc12]; exact trl_11
  have grl_12 : m0.nx ≤ rl := grl_11
  have g1_12 : c12.fI 512 rl = x1 := by rw [hc12]; exact g1_11
  have g2_12 : c12.fI 513 rl = x2 := by rw [hc12]; exact g2_11
  have g3_12 : c12.fI 514 rl = x3 := by rw [hc12]; exact g3_11
  have g4_12 : c12.fI 515 rl = x4 := by rw [hc12]; exact g4_11
  have g5_12 : c12.fI 516 rl = x5 := by rw [hc12]; exact g5_11
  have g6_12 : c12.fI 517 rl = x6 := by rw [hc12]; exact g6_11
  have p768_x_12 : c12.fR 768 x = (some rl) := by rw [hc12, sp_pR_fR, if_neg (fun z => absurd z.1 (by decide))]; exact p768_x_11
  have tdd_12 : c12.ty dd = 3 := by rw [hc12]; exact tdd_11
  have gdd_12 : m0.nx ≤ dd := gdd_11
  have t8_12 : c12.ty a8 = 20 := by rw [hc12]; exact t8_11
  have l8_12 : c12.ln a8 = 160 := by rw [hc12]; exact l8_11
  have d1_12 : c12.fR 128 dd = some a8 := by rw [hc12, sp_pR_fR, if_neg (fun z => absurd z.1 (by decide))]; exact d1_11
  have d2_12 : c12.fI 129 dd = 0 := by rw [hc12]; exact d2_11
  have p769_x_12 : c12.fR 769 x = (some dd) := by rw [hc12, sp_pR_fR, if_neg (fun z => absurd z.1 (by decide))]; exact p769_x_11
  have ta2_12 : c12.ty a2 = 1 := by rw [hc12]; exact ta2_11
  have la2_12 : c12.ln a2 = 8 := by rw [hc12]; exact la2_11
  have La2_12 : sp_li G c12 a2 (G.sk 3) 0 := by rw [hc12]; exact La2_11.pR (by decide)
  have ga2_12 : m0.nx ≤ a2 := ga2_11
  have p770_x_12 : c12.fR 770 x = (some a2) := by rw [hc12, sp_pR_fR, if_neg (fun z => absurd z.1 (by decide))]; exact p770_x_11
  have ta3_12 : c12.ty a3 = 1 := by rw [hc12]; exact ta3_11
  have la3_12 : c12.ln a3 = 18 := by rw [hc12]; exact la3_11
  have La3_12 : sp_li G c12 a3 (G.sk 3) 0 := by rw [hc12]; exact La3_11.pR (by decide)
  have ga3_12 : m0.nx ≤ a3 := ga3_11
  have p771_x_12 : c12.fR 771 x = (some a3) := by rw [hc12, sp_pR_fR, if_neg (fun z => absurd z.1 (by decide))]; exact p771_x_11
  have ta4_12 : c12.ty a4 = 1 := by rw [hc12]; exact tc11
  have la4_12 : c12.ln a4 = 4 := by rw [hc12]; exact lc11
  have La4_12 : sp_li G c12 a4 (G.sk 3) 0 := by rw [hc12]; exact Lc11.pR (by decide)
  have ga4_12 : m0.nx ≤ a4 := ga4
  have nnc12 : m.nx ≤ c12.nx := by rw [hc12]; exact nnc11
  have p772_x_12 : c12.fR 772 x = (some a4) := by rw [hc12, sp_pR_fR, if_pos ⟨rfl, rfl⟩]
  clear hc12
  clear tx_11 T4_11 N4_11 T5_11 N5_11 C5_11 T6_11 N6_11 C6_11 T7_11 N7_11 C7_11 trl_11 grl_11 g1_11 g2_11 g3_11 g4_11 g5_11 g6_11 p768_x_11 tdd_11 gdd_11 t8_11 l8_11 d1_11 d2_11 p769_x_11 ta2_11 la2_11 La2_11 ga2_11 p770_x_11 ta3_11 la3_11 La3_11 ga3_11 p771_x_11
  refine sp_aload_n X (pc := 60) (r := some x) dX11_init_60 rfl rfl ?_
  obtain ⟨t, ht⟩ : ∃ a, a = c12.nx := ⟨_, rfl⟩
  refine sp_new X (pc := 61) (c := 10) (N := 7) (by decide) rfl cl_SP_38 in_10 it_10 (by decide) (by decide) dX11_init_61 ?_
  rw [← ht]
  obtain ⟨c13, hc13⟩ : ∃ c, c = c12.newO 10 := ⟨_, rfl⟩
  rw [← hc13]
  have tc13 : c13.ty t = 11 := by rw [hc13, ht, sp_newO_ty, if_pos rfl]
  have jc13 : sp_J G (sp_Pw P a8) (sp_E1 (sp_E0) t) c13 := by subst ht; rw [hc13]; exact Jc12.newO0 wc12 10
  have Jc13 : sp_J G (sp_Pw P a8) (sp_E0) c13 := jc13.drop (fun h => by omega) (fun h => by omega) (fun h => by omega) (fun h => by omega) (fun h => by omega) (fun h => by omega)
  have wc13 : sp_wf c13 := by rw [hc13]; exact wc12.newO 10
  have xc13 : sp_fx c12 c13 sp_w0 := by rw [hc13]; exact (sp_fx.refl c12 sp_w0).newO 10
  have ac13 : c12.nx ≤ t := by rw [ht]; exact Nat.le_refl _
  clear hc13 jc13
  have tx_13 := xc13.ty wc12 tx_12 (by decide)
  have T4_13 := xc13.ty wc12 T4_12 (by decide)
  have N4_13 := (xc13.ln wc12 T4_12 (by decide)).trans N4_12
  have T5_13 := xc13.ty wc12 T5_12 (by decide)
  have N5_13 := (xc13.ln wc12 T5_12 (by decide)).trans N5_12
  have C5_13 : ∀ j, j < 3 → c13.aI (G.sk 5) j = (([111, 117, 116] : List Int32) : List Int32).getD j 0 := fun j hj => by rw [(xc13.2.2.2.2.2 (G.sk 5) (wc12 (G.sk 5) (by rw [T5_12]; decide)) (fun z => z)).1]; exact C5_12 j hj
  have T6_13 := xc13.ty wc12 T6_12 (by decide)
  have N6_13 := (xc13.ln wc12 T6_12 (by decide)).trans N6_12
  have C6_13 : ∀ j, j < 4 → c13.aI (G.sk 6) j = (([104, 111, 109, 101] : List Int32) : List Int32).getD j 0 := fun j hj => by rw [(xc13.2.2.2.2.2 (G.sk 6) (wc12 (G.sk 6) (by rw [T6_12]; decide)) (fun z => z)).1]; exact C6_12 j hj
  have T7_13 := xc13.ty wc12 T7_12 (by decide)
  have N7_13 := (xc13.ln wc12 T7_12 (by decide)).trans N7_12
  have C7_13 : ∀ j, j < 3 → c13.aI (G.sk 7) j = (([107, 101, 121] : List Int32) : List Int32).getD j 0 := fun j hj => by rw [(xc13.2.2.2.2.2 (G.sk 7) (wc12 (G.sk 7) (by rw [T7_12]; decide)) (fun z => z)).1]; exact C7_12 j hj
  have trl_13 := xc13.ty wc12 trl_12 (by decide)
  have grl_13 := grl_12
  have g1_13 := (xc13.2.2.1 512 rl (wc12 rl (by rw [trl_12]; decide)) (fun z => z)).trans g1_12
  have g2_13 := (xc13.2.2.1 513 rl (wc12 rl (by rw [trl_12]; decide)) (fun z => z)).trans g2_12
  have g3_13 := (xc13.2.2.1 514 rl (wc12 rl (by rw [trl_12]; decide)) (fun z => z)).trans g3_12
  have g4_13 := (xc13.2.2.1 515 rl (wc12 rl (by rw [trl_12]; decide)) (fun z => z)).trans g4_12
  have g5_13 := (xc13.2.2.1 516 rl (wc12 rl (by rw [trl_12]; decide)) (fun z => z)).trans g5_12
  have g6_13 := (xc13.2.2.1 517 rl (wc12 rl (by rw [trl_12]; decide)) (fun z => z)).trans g6_12
  have p768_x_13 := (xc13.2.2.2.2.1 768 x (wc12 x (by rw [tx_12]; decide)) (fun z => z)).trans p768_x_12
  have tdd_13 := xc13.ty wc12 tdd_12 (by decide)
  have gdd_13 := gdd_12
  have t8_13 := xc13.ty wc12 t8_12 (by decide)
  have l8_13 := (xc13.ln wc12 t8_12 (by decide)).trans l8_12
  have d1_13 := (xc13.2.2.2.2.1 128 dd (wc12 dd (by rw [tdd_12]; decide)) (fun z => z)).trans d1_12
  have d2_13 := (xc13.2.2.1 129 dd (wc12 dd (by rw [tdd_12]; decide)) (fun z => z)).trans d2_12
  have p769_x_13 := (xc13.2.2.2.2.1 769 x (wc12 x (by rw [tx_12]; decide)) (fun z => z)).trans p769_x_12
  have ta2_13 := xc13.ty wc12 ta2_12 (by decide)
  have la2_13 := (xc13.ln wc12 ta2_12 (by decide)).trans la2_12
  have La2_13 := xc13.li wc12 La2_12 (fun z => z) (fun z => z)
  have ga2_13 := ga2_12
  have p770_x_13 := (xc13.2.2.2.2.1 770 x (wc12 x (by rw [tx_12]; decide)) (fun z => z)).trans p770_x_12
  have ta3_13 := xc13.ty wc12 ta3_12 (by decide)
  have la3_13 := (xc13.ln wc12 ta3_12 (by decide)).trans la3_12
  have La3_13 := xc13.li wc12 La3_12 (fun z => z) (fun z => z)
  have ga3_13 := ga3_12
  have p771_x_13 := (xc13.2.2.2.2.1 771 x (wc12 x (by rw [tx_12]; decide)) (fun z => z)).trans p771_x_12
  have ta4_13 := xc13.ty wc12 ta4_12 (by decide)
  have la4_13 := (xc13.ln wc12 ta4_12 (by decide)).trans la4_12
  have La4_13 := xc13.li wc12 La4_12 (fun z => z) (fun z => z)
  have ga4_13 := ga4_12
  have p772_x_13 := (xc13.2.2.2.2.1 772 x (wc12 x (by rw [tx_12]; decide)) (fun z => z)).trans p772_x_12
  have fc13 : sp_fx m0 c13 sp_w0 := fc12.tr0 xc13
  have nnc13 : m.nx ≤ c13.nx := Nat.le_trans nnc12 xc13.1
  refine sp_dup X (pc := 64) dX11_init_64 (sp_cat_rf _) ?_
  refine sp_aload_n X (pc := 65) (r := some x) dX11_init_65 rfl rfl ?_
  refine sp_getfield X (pc := 66) (c := 12) (i := 0) (t := 2) (a := x) (v := va_rf (some rl)) rfl (by first | assumption | omega) (by decide) rfl (congrArg va_rf p768_x_13) fl_SP_12 dX11_init_66 ?_
  refine sp_callI X (pc := 69) (mc := 21) (ms := 89) (b := t) (r := some t) (As := [va_rf (some rl)]) (rest := [va_rf (some t), va_rf (some x)]) (c_Tree_init l G _ (P := sp_Pw P a8) (m0 := c12) (t := t) (rl := rl) hG Jc13 wc13 (by rintro a (z | z); exact Nat.lt_of_lt_of_le (hP a z) nnc13; rw [z]; exact wc13 a8 (by rw [t8_13]; decide)) xc13 tc13 ac13 T4_13 N4_13 T5_13 N5_13 T6_13 N6_13 T7_13 N7_13 C5_13 C6_13 C7_13) ok_Tree_init rfl rfl lk_SP_40 rfl rfl (by simp [sp_cat_rf, sp_cat_i, sp_cat_l]) (Nat.le_of_ble_eq_true rfl) (Nat.le_of_ble_eq_true rfl) (by decide) (by decide) dX11_init_69 (sp_kV fun m69 hp69 => ?_)
  obtain ⟨c14, hc14⟩ : ∃ c, c = m69 := ⟨_, rfl⟩
  rw [← hc14]
  rw [← hc14] at hp69
  clear hc14
  obtain ⟨a9, a10, n11, n12, n13, n14, e9, e10, bd, Jc14, wc14, xc14, r0c14, r1c14, r2c14, r3c14, r4c14, r5c14, r6c14, ta9c14, ta10c14, tn11c14, tn12c14, tn13c14, tn14c14, la9c14, la10c14, La9c14, ce9c14, La10c14, ce10c14, un14c14, -, -, ttc14, qn11c14, qn12c14, qn13c14, qn14c14, qbdc14, E0c14, E1c14, E2c14, E3c14, F0c14⟩ := hp69
  have tbdc14 : c14.ty bd = 2 := qbdc14.1
  have te9c14 : c14.ty e9 = 23 := La9c14.row (by decide)
  have te10c14 : c14.ty e10 = 23 := La10c14.row (by decide)
  have tx_14 := xc14.ty wc12 tx_12 (by decide)
  have T4_14 := xc14.ty wc12 T4_12 (by decide)
  have N4_14 := (xc14.ln wc12 T4_12 (by decide)).trans N4_12
  have T5_14 := xc14.ty wc12 T5_12 (by decide)
  have N5_14 := (xc14.ln wc12 T5_12 (by decide)).trans N5_12
  have C5_14 : ∀ j, j < 3 → c14.aI (G.sk 5) j = (([111, 117, 116] : List Int32) : List Int32).getD j 0 := fun j hj => by rw [(xc14.2.2.2.2.2 (G.sk 5) (wc12 (G.sk 5) (by rw [T5_12]; decide)) (fun z => z)).1]; exact C5_12 j hj
  have T6_14 := xc14.ty wc12 T6_12 (by decide)
  have N6_14 := (xc14.ln wc12 T6_12 (by decide)).trans N6_12
  have C6_14 : ∀ j, j < 4 → c14.aI (G.sk 6) j = (([104, 111, 109, 101] : List Int32) : List Int32).getD j 0 := fun j hj => by rw [(xc14.2.2.2.2.2 (G.sk 6) (wc12 (G.sk 6) (by rw [T6_12]; decide)) (fun z => z)).1]; exact C6_12 j hj
  have T7_14 := xc14.ty wc12 T7_12 (by decide)
  have N7_14 := (xc14.ln wc12 T7_12 (by decide)).trans N7_12
  have C7_14 : ∀ j, j < 3 → c14.aI (G.sk 7) j = (([107, 101, 121] : List Int32) : List Int32).getD j 0 := fun j hj => by rw [(xc14.2.2.2.2.2 (G.sk 7) (wc12 (G.sk 7) (by rw [T7_12]; decide)) (fun z => z)).1]; exact C7_12 j hj
  have trl_14 := xc14.ty wc12 trl_12 (by decide)
  have grl_14 := grl_12
  have g1_14 := (xc14.2.2.1 512 rl (wc12 rl (by rw [trl_12]; decide)) (fun z => z)).trans g1_12
  have g2_14 := (xc14.2.2.1 513 rl (wc12 rl (by rw [trl_12]; decide)) (fun z => z)).trans g2_12
  have g3_14 := (xc14.2.2.1 514 rl (wc12 rl (by rw [trl_12]; decide)) (fun z => z)).trans g3_12
  have g4_14 := (xc14.2.2.1 515 rl (wc12 rl (by rw [trl_12]; decide)) (fun z => z)).trans g4_12
  have g5_14 := (xc14.2.2.1 516 rl (wc12 rl (by rw [trl_12]; decide)) (fun z => z)).trans g5_12
  have g6_14 := (xc14.2.2.1 517 rl (wc12 rl (by rw [trl_12]; decide)) (fun z => z)).trans g6_12
  have p768_x_14 := (xc14.2.2.2.2.1 768 x (wc12 x (by rw [tx_12]; decide)) (fun z => z)).trans p768_x_12
  have tdd_14 := xc14.ty wc12 tdd_12 (by decide)
  have gdd_14 := gdd_12
  have t8_14 := xc14.ty wc12 t8_12 (by decide)
  have l8_14 := (xc14.ln wc12 t8_12 (by decide)).trans l8_12
  have d1_14 := (xc14.2.2.2.2.1 128 dd (wc12 dd (by rw [tdd_12]; decide)) (fun z => z)).trans d1_12
  have d2_14 := (xc14.2.2.1 129 dd (wc12 dd (by rw [tdd_12]; decide)) (fun z => z)).trans d2_12
  have p769_x_14 := (xc14.2.2.2.2.1 769 x (wc12 x (by rw [tx_12]; decide)) (fun z => z)).trans p769_x_12
  have ta2_14 := xc14.ty wc12 ta2_12 (by decide)
  have la2_14 := (xc14.ln wc12 ta2_12 (by decide)).trans la2_12
  have La2_14 := xc14.li wc12 La2_12 (fun z => z) (fun z => z)
  have ga2_14 := ga2_12
  have p770_x_14 := (xc14.2.2.2.2.1 770 x (wc12 x (by rw [tx_12]; decide)) (fun z => z)).trans p770_x_12
  have ta3_14 := xc14.ty wc12 ta3_12 (by decide)
  have la3_14 := (xc14.ln wc12 ta3_12 (by decide)).trans la3_12
  have La3_14 := xc14.li wc12 La3_12 (fun z => z) (fun z => z)
  have ga3_14 := ga3_12
  have p771_x_14 := (xc14.2.2.2.2.1 771 x (wc12 x (by rw [tx_12]; decide)) (fun z => z)).trans p771_x_12
  have ta4_14 := xc14.ty wc12 ta4_12 (by decide)
  have la4_14 := (xc14.ln wc12 ta4_12 (by decide)).trans la4_12
  have La4_14 := xc14.li wc12 La4_12 (fun z => z) (fun z => z)
  have ga4_14 := ga4_12
  have p772_x_14 := (xc14.2.2.2.2.1 772 x (wc12 x (by rw [tx_12]; decide)) (fun z => z)).trans p772_x_12
  have fc14 : sp_fx m0 c14 sp_w0 := fc12.tr0 xc14
  have nnc14 : m.nx ≤ c14.nx := Nat.le_trans nnc12 xc14.1
  have tc14 : c14.ty t = 11 := ttc14
  have gt : m0.nx ≤ t := by rw [ht]; exact fc12.1
  refine sp_putR X (pc := 72) (c := 12) (i := 5) (q := 773) (a := x) rfl (by first | assumption | omega) (by decide) rfl rfl (Or.inr ⟨rfl, rfl, rfl⟩)  fl_SP_43 dX11_init_72 ?_
  obtain ⟨c15, hc15⟩ : ∃ c, c = c14.pR 773 x (some t) := ⟨_, rfl⟩
  rw [← hc15]
  have Jc15 : sp_J G (sp_Pw P a8) (sp_E0) c15 := by rw [hc15]; exact Jc14.pR (Or.inl (by unfold sp_fk; omega))
  have wc15 : sp_wf c15 := by rw [hc15]; exact wc14
  have fc15 : sp_fx m0 c15 sp_w0 := by rw [hc15]; exact fc14.pR (Or.inr hx0)
  have tx_15 : c15.ty x = 13 := by rw [hc15]; exact tx_14
  have T4_15 : c15.ty (G.sk 4) = 24 := by rw [hc15]; exact T4_14
  have N4_15 : c15.ln (G.sk 4) = 0 := by rw [hc15]; exact N4_14
  have T5_15 : c15.ty (G.sk 5) = 24 := by rw [hc15]; exact T5_14
  have N5_15 : c15.ln (G.sk 5) = 3 := by rw [hc15]; exact N5_14
  have C5_15 : ∀ j, j < 3 → c15.aI (G.sk 5) j = (([111, 117, 116] : List Int32) : List Int32).getD j 0 := by rw [hc15]; exact C5_14
  have T6_15 : c15.ty (G.sk 6) = 24 := by rw [hc15]; exact T6_14
  have N6_15 : c15.ln (G.sk 6) = 4 := by rw [hc15]; exact N6_14
  have C6_15 : ∀ j, j < 4 → c15.aI (G.sk 6) j = (([104, 111, 109, 101] : List Int32) : List Int32).getD j 0 := by rw [hc15]; exact C6_14
  have T7_15 : c15.ty (G.sk 7) = 24 := by rw [hc15]; exact T7_14
  have N7_15 : c15.ln (G.sk 7) = 3 := by rw [hc15]; exact N7_14
  have C7_15 : ∀ j, j < 3 → c15.aI (G.sk 7) j = (([107, 101, 121] : List Int32) : List Int32).getD j 0 := by rw [hc15]; exact C7_14
  have trl_15 : c15.ty rl = 9 := by rw [hc15]; exact trl_14
  have grl_15 : m0.nx ≤ rl := grl_14
  have g1_15 : c15.fI 512 rl = x1 := by rw [hc15]; exact g1_14
  have g2_15 : c15.fI 513 rl = x2 := by rw [hc15]; exact g2_14
  have g3_15 : c15.fI 514 rl = x3 := by rw [hc15]; exact g3_14
  have g4_15 : c15.fI 515 rl = x4 := by rw [hc15]; exact g4_14
  have g5_15 : c15.fI 516 rl = x5 := by rw [hc15]; exact g5_14
  have g6_15 : c15.fI 517 rl = x6 := by rw [hc15]; exact g6_14
  have p768_x_15 : c15.fR 768 x = (some rl) := by rw [hc15, sp_pR_fR, if_neg (fun z => absurd z.1 (by decide))]; exact p768_x_14
  have tdd_15 : c15.ty dd = 3 := by rw [hc15]; exact tdd_14
  have gdd_15 : m0.nx ≤ dd := gdd_14
  have t8_15 : c15.ty a8 = 20 := by rw [hc15]; exact t8_14
  have l8_15 : c15.ln a8 = 160 := by rw [hc15]; exact l8_14
  have d1_15 : c15.fR 128 dd = some a8 := by rw [hc15, sp_pR_fR, if_neg (fun z => absurd z.1 (by decide))]; exact d1_14
  have d2_15 : c15.fI 129 dd = 0 := by rw [hc15]; exact d2_14
  have p769_x_15 : c15.fR 769 x = (some dd) := by rw [hc15, sp_pR_fR, if_neg (fun z => absurd z.1 (by decide))]; exact p769_x_14
  have ta2_15 : c15.ty a2 = 1 := by rw [hc15]; exact ta2_14
  have la2_15 : c15.ln a2 = 8 := by rw [hc15]; exact la2_14
  have La2_15 : sp_li G c15 a2 (G.sk 3) 0 := by rw [hc15]; exact La2_14.pR (by decide)
  have ga2_15 : m0.nx ≤ a2 := ga2_14
  have p770_x_15 : c15.fR 770 x = (some a2) := by rw [hc15, sp_pR_fR, if_neg (fun z => absurd z.1 (by decide))]; exact p770_x_14
  have ta3_15 : c15.ty a3 = 1 := by rw [hc15]; exact ta3_14
  have la3_15 : c15.ln a3 = 18 := by rw [hc15]; exact la3_14
  have La3_15 : sp_li G c15 a3 (G.sk 3) 0 := by rw [hc15]; exact La3_14.pR (by decide)
  have ga3_15 : m0.nx ≤ a3 := ga3_14
  have p771_x_15 : c15.fR 771 x = (some a3) := by rw [hc15, sp_pR_fR, if_neg (fun z => absurd z.1 (by decide))]; exact p771_x_14
  have ta4_15 : c15.ty a4 = 1 := by rw [hc15]; exact ta4_14
  have la4_15 : c15.ln a4 = 4 := by rw [hc15]; exact la4_14
  have La4_15 : sp_li G c15 a4 (G.sk 3) 0 := by rw [hc15]; exact La4_14.pR (by decide)
  have ga4_15 : m0.nx ≤ a4 := ga4_14
  have p772_x_15 : c15.fR 772 x = (some a4) := by rw [hc15, sp_pR_fR, if_neg (fun z => absurd z.1 (by decide))]; exact p772_x_14
  have tt_15 : c15.ty t = 11 := by rw [hc15]; exact tc14
  have gt_15 : m0.nx ≤ t := gt
  have r0_15 : c15.fR 640 t = some rl := by rw [hc15, sp_pR_fR, if_neg (fun z => absurd z.1 (by decide))]; exact r0c14
  have r1_15 : c15.fR 641 t = some a9 := by rw [hc15, sp_pR_fR, if_neg (fun z => absurd z.1 (by decide))]; exact r1c14
  have r2_15 : c15.fR 642 t = some a10 := by rw [hc15, sp_pR_fR, if_neg (fun z => absurd z.1 (by decide))]; exact r2c14
  have r3_15 : c15.fR 643 t = some n11 := by rw [hc15, sp_pR_fR, if_neg (fun z => absurd z.1 (by decide))]; exact r3c14
  have r4_15 : c15.fR 644 t = some n12 := by rw [hc15, sp_pR_fR, if_neg (fun z => absurd z.1 (by decide))]; exact r4c14
  have r5_15 : c15.fR 645 t = some n13 := by rw [hc15, sp_pR_fR, if_neg (fun z => absurd z.1 (by decide))]; exact r5c14
  have r6_15 : c15.fR 646 t = some n14 := by rw [hc15, sp_pR_fR, if_neg (fun z => absurd z.1 (by decide))]; exact r6c14
  have tn11_15 : c15.ty n11 = 6 := by rw [hc15]; exact tn11c14
  have tn12_15 : c15.ty n12 = 6 := by rw [hc15]; exact tn12c14
  have tn13_15 : c15.ty n13 = 6 := by rw [hc15]; exact tn13c14
  have tn14_15 : c15.ty n14 = 6 := by rw [hc15]; exact tn14c14
  have ta9_15 : c15.ty a9 = 1 := by rw [hc15]; exact ta9c14
  have ta10_15 : c15.ty a10 = 1 := by rw [hc15]; exact ta10c14
  have la9_15 : c15.ln a9 = 6 := by rw [hc15]; exact la9c14
  have la10_15 : c15.ln a10 = 2 := by rw [hc15]; exact la10c14
  have La9_15 : sp_li G c15 a9 e9 4 := by rw [hc15]; exact La9c14.pR (by decide)
  have La10_15 : sp_li G c15 a10 e10 1 := by rw [hc15]; exact La10c14.pR (by decide)
  have te9_15 : c15.ty e9 = 23 := by rw [hc15]; exact te9c14
  have te10_15 : c15.ty e10 = 23 := by rw [hc15]; exact te10c14
  have ce9_15 : c15.ln e9 = 10 := by rw [hc15]; exact ce9c14
  have ce10_15 : c15.ln e10 = 10 := by rw [hc15]; exact ce10c14
  have un14_15 : c15.fI 320 n14 = 3 := by rw [hc15]; exact un14c14
  have qn11_15 : sp_nq c15 n11 0 none ([] : List Int32) none := by rw [hc15]; exact qn11c14.pR (by decide)
  have qn12_15 : sp_nq c15 n12 1 (some n11) ([111, 117, 116] : List Int32) none := by rw [hc15]; exact qn12c14.pR (by decide)
  have qn13_15 : sp_nq c15 n13 2 (some n11) ([104, 111, 109, 101] : List Int32) none := by rw [hc15]; exact qn13c14.pR (by decide)
  have qn14_15 : sp_nq c15 n14 3 (some n13) ([107, 101, 121] : List Int32) (some bd) := by rw [hc15]; exact qn14c14.pR (by decide)
  have qbd_15 : sp_bq c15 bd 0 8 42 := by rw [hc15]; exact qbdc14.pR (by decide)
  have tbd_15 : c15.ty bd = 2 := by rw [hc15]; exact tbdc14
  have E0_15 : c15.aR e9 0 = some n11 := by rw [hc15]; exact E0c14
  have E1_15 : c15.aR e9 1 = some n12 := by rw [hc15]; exact E1c14
  have E2_15 : c15.aR e9 2 = some n13 := by rw [hc15]; exact E2c14
  have E3_15 : c15.aR e9 3 = some n14 := by rw [hc15]; exact E3c14
  have F0_15 : c15.aR e10 0 = some bd := by rw [hc15]; exact F0c14
  have nnc15 : m.nx ≤ c15.nx := by rw [hc15]; exact nnc14
  have p773_x_15 : c15.fR 773 x = (some t) := by rw [hc15, sp_pR_fR, if_pos ⟨rfl, rfl⟩]
  clear hc15
  clear tx_14 T4_14 N4_14 T5_14 N5_14 C5_14 T6_14 N6_14 C6_14 T7_14 N7_14 C7_14 trl_14 grl_14 g1_14 g2_14 g3_14 g4_14 g5_14 g6_14 p768_x_14 tdd_14 gdd_14 t8_14 l8_14 d1_14 d2_14 p769_x_14 ta2_14 la2_14 La2_14 ga2_14 p770_x_14 ta3_14 la3_14 La3_14 ga3_14 p771_x_14 ta4_14 la4_14 La4_14 ga4_14 p772_x_14
  refine sp_aload_n X (pc := 75) (r := some x) dX11_init_75 rfl rfl ?_
  obtain ⟨wk, hwk⟩ : ∃ a, a = c15.nx := ⟨_, rfl⟩
  refine sp_new X (pc := 76) (c := 11) (N := 5) (by decide) rfl cl_SP_47 in_11 it_11 (by decide) (by decide) dX11_init_76 ?_
  rw [← hwk]
  obtain ⟨c16, hc16⟩ : ∃ c, c = c15.newO 11 := ⟨_, rfl⟩
  rw [← hc16]
  have tc16 : c16.ty wk = 12 := by rw [hc16, hwk, sp_newO_ty, if_pos rfl]
  have jc16 : sp_J G (sp_Pw P a8) (sp_E1 (sp_E0) wk) c16 := by subst hwk; rw [hc16]; exact Jc15.newO0 wc15 11
  have Jc16 : sp_J G (sp_Pw P a8) (sp_E0) c16 := jc16.drop (fun h => by omega) (fun h => by omega) (fun h => by omega) (fun h => by omega) (fun h => by omega) (fun h => by omega)
  have wc16 : sp_wf c16 := by rw [hc16]; exact wc15.newO 11
  have xc16 : sp_fx c15 c16 sp_w0 := by rw [hc16]; exact (sp_fx.refl c15 sp_w0).newO 11
  have ac16 : c15.nx ≤ wk := by rw [hwk]; exact Nat.le_refl _
  clear hc16 jc16
  have tx_16 := xc16.ty wc15 tx_15 (by decide)
  have T4_16 := xc16.ty wc15 T4_15 (by decide)
  have N4_16 := (xc16.ln wc15 T4_15 (by decide)).trans N4_15
  have T5_16 := xc16.ty wc15 T5_15 (by decide)
  have N5_16 := (xc16.ln wc15 T5_15 (by decide)).trans N5_15
  have C5_16 : ∀ j, j < 3 → c16.aI (G.sk 5) j = (([111, 117, 116] : List Int32) : List Int32).getD j 0 := fun j hj => by rw [(xc16.2.2.2.2.2 (G.sk 5) (wc15 (G.sk 5) (by rw [T5_15]; decide)) (fun z => z)).1]; exact C5_15 j hj
  have T6_16 := xc16.ty wc15 T6_15 (by decide)
  have N6_16 := (xc16.ln wc15 T6_15 (by decide)).trans N6_15
  have C6_16 : ∀ j, j < 4 → c16.aI (G.sk 6) j = (([104, 111, 109, 101] : List Int32) : List Int32).getD j 0 := fun j hj => by rw [(xc16.2.2.2.2.2 (G.sk 6) (wc15 (G.sk 6) (by rw [T6_15]; decide)) (fun z => z)).1]; exact C6_15 j hj
  have T7_16 := xc16.ty wc15 T7_15 (by decide)
  have N7_16 := (xc16.ln wc15 T7_15 (by decide)).trans N7_15
  have C7_16 : ∀ j, j < 3 → c16.aI (G.sk 7) j = (([107, 101, 121] : List Int32) : List Int32).getD j 0 := fun j hj => by rw [(xc16.2.2.2.2.2 (G.sk 7) (wc15 (G.sk 7) (by rw [T7_15]; decide)) (fun z => z)).1]; exact C7_15 j hj
  have trl_16 := xc16.ty wc15 trl_15 (by decide)
  have grl_16 := grl_15
  have g1_16 := (xc16.2.2.1 512 rl (wc15 rl (by rw [trl_15]; decide)) (fun z => z)).trans g1_15
  have g2_16 := (xc16.2.2.1 513 rl (wc15 rl (by rw [trl_15]; decide)) (fun z => z)).trans g2_15
  have g3_16 := (xc16.2.2.1 514 rl (wc15 rl (by rw [trl_15]; decide)) (fun z => z)).trans g3_15
  have g4_16 := (xc16.2.2.1 515 rl (wc15 rl (by rw [trl_15]; decide)) (fun z => z)).trans g4_15
  have g5_16 := (xc16.2.2.1 516 rl (wc15 rl (by rw [trl_15]; decide)) (fun z => z)).trans g5_15
  have g6_16 := (xc16.2.2.1 517 rl (wc15 rl (by rw [trl_15]; decide)) (fun z => z)).trans g6_15
  have p768_x_16 := (xc16.2.2.2.2.1 768 x (wc15 x (by rw [tx_15]; decide)) (fun z => z)).trans p768_x_15
  have tdd_16 := xc16.ty wc15 tdd_15 (by decide)
  have gdd_16 := gdd_15
  have t8_16 := xc16.ty wc15 t8_15 (by decide)
  have l8_16 := (xc16.ln wc15 t8_15 (by decide)).trans l8_15
  have d1_16 := (xc16.2.2.2.2.1 128 dd (wc15 dd (by rw [tdd_15]; decide)) (fun z => z)).trans d1_15
  have d2_16 := (xc16.2.2.1 129 dd (wc15 dd (by rw [tdd_15]; decide)) (fun z => z)).trans d2_15
  have p769_x_16 := (xc16.2.2.2.2.1 769 x (wc15 x (by rw [tx_15]; decide)) (fun z => z)).trans p769_x_15
  have ta2_16 := xc16.ty wc15 ta2_15 (by decide)
  have la2_16 := (xc16.ln wc15 ta2_15 (by decide)).trans la2_15
  have La2_16 := xc16.li wc15 La2_15 (fun z => z) (fun z => z)
  have ga2_16 := ga2_15
  have p770_x_16 := (xc16.2.2.2.2.1 770 x (wc15 x (by rw [tx_15]; decide)) (fun z => z)).trans p770_x_15
  have ta3_16 := xc16.ty wc15 ta3_15 (by decide)
  have la3_16 := (xc16.ln wc15 ta3_15 (by decide)).trans la3_15
  have La3_16 := xc16.li wc15 La3_15 (fun z => z) (fun z => z)
  have ga3_16 := ga3_15
  have p771_x_16 := (xc16.2.2.2.2.1 771 x (wc15 x (by rw [tx_15]; decide)) (fun z => z)).trans p771_x_15
  have ta4_16 := xc16.ty wc15 ta4_15 (by decide)
  have la4_16 := (xc16.ln wc15 ta4_15 (by decide)).trans la4_15
  have La4_16 := xc16.li wc15 La4_15 (fun z => z) (fun z => z)
  have ga4_16 := ga4_15
  have p772_x_16 := (xc16.2.2.2.2.1 772 x (wc15 x (by rw [tx_15]; decide)) (fun z => z)).trans p772_x_15
  have tt_16 := xc16.ty wc15 tt_15 (by decide)
  have gt_16 := gt_15
  have r0_16 := (xc16.2.2.2.2.1 640 t (wc15 t (by rw [tt_15]; decide)) (fun z => z)).trans r0_15
  have r1_16 := (xc16.2.2.2.2.1 641 t (wc15 t (by rw [tt_15]; decide)) (fun z => z)).trans r1_15
  have r2_16 := (xc16.2.2.2.2.1 642 t (wc15 t (by rw [tt_15]; decide)) (fun z => z)).trans r2_15
  have r3_16 := (xc16.2.2.2.2.1 643 t (wc15 t (by rw [tt_15]; decide)) (fun z => z)).trans r3_15
  have r4_16 := (xc16.2.2.2.2.1 644 t (wc15 t (by rw [tt_15]; decide)) (fun z => z)).trans r4_15
  have r5_16 := (xc16.2.2.2.2.1 645 t (wc15 t (by rw [tt_15]; decide)) (fun z => z)).trans r5_15
  have r6_16 := (xc16.2.2.2.2.1 646 t (wc15 t (by rw [tt_15]; decide)) (fun z => z)).trans r6_15
  have tn11_16 := xc16.ty wc15 tn11_15 (by decide)
  have tn12_16 := xc16.ty wc15 tn12_15 (by decide)
  have tn13_16 := xc16.ty wc15 tn13_15 (by decide)
  have tn14_16 := xc16.ty wc15 tn14_15 (by decide)
  have ta9_16 := xc16.ty wc15 ta9_15 (by decide)
  have ta10_16 := xc16.ty wc15 ta10_15 (by decide)
  have la9_16 := (xc16.ln wc15 ta9_15 (by decide)).trans la9_15
  have la10_16 := (xc16.ln wc15 ta10_15 (by decide)).trans la10_15
  have La9_16 := xc16.li wc15 La9_15 (fun z => z) (fun z => z)
  have La10_16 := xc16.li wc15 La10_15 (fun z => z) (fun z => z)
  have te9_16 := xc16.ty wc15 te9_15 (by decide)
  have te10_16 := xc16.ty wc15 te10_15 (by decide)
  have ce9_16 := (xc16.ln wc15 te9_15 (by decide)).trans ce9_15
  have ce10_16 := (xc16.ln wc15 te10_15 (by decide)).trans ce10_15
  have un14_16 := (xc16.2.2.1 320 n14 (wc15 n14 (by rw [tn14_15]; decide)) (fun z => z)).trans un14_15
  have qn11_16 := qn11_15.w0 wc15 xc16
  have qn12_16 := qn12_15.w0 wc15 xc16
  have qn13_16 := qn13_15.w0 wc15 xc16
  have qn14_16 := qn14_15.w0 wc15 xc16
  have qbd_16 := qbd_15.w0 wc15 xc16
  have tbd_16 := xc16.ty wc15 tbd_15 (by decide)
  have E0_16 := (congrFun (xc16.2.2.2.2.2 e9 (wc15 e9 (by rw [te9_15]; decide)) (fun z => z)).2.2 0).trans E0_15
  have E1_16 := (congrFun (xc16.2.2.2.2.2 e9 (wc15 e9 (by rw [te9_15]; decide)) (fun z => z)).2.2 1).trans E1_15
  have E2_16 := (congrFun (xc16.2.2.2.2.2 e9 (wc15 e9 (by rw [te9_15]; decide)) (fun z => z)).2.2 2).trans E2_15
  have E3_16 := (congrFun (xc16.2.2.2.2.2 e9 (wc15 e9 (by rw [te9_15]; decide)) (fun z => z)).2.2 3).trans E3_15
  have F0_16 := (congrFun (xc16.2.2.2.2.2 e10 (wc15 e10 (by rw [te10_15]; decide)) (fun z => z)).2.2 0).trans F0_15
  have p773_x_16 := (xc16.2.2.2.2.1 773 x (wc15 x (by rw [tx_15]; decide)) (fun z => z)).trans p773_x_15
  have fc16 : sp_fx m0 c16 sp_w0 := fc15.tr0 xc16
  have nnc16 : m.nx ≤ c16.nx := Nat.le_trans nnc15 xc16.1
  refine sp_dup X (pc := 79) dX11_init_79 (sp_cat_rf _) ?_
  refine sp_aload_n X (pc := 80) (r := some x) dX11_init_80 rfl rfl ?_
  refine sp_getfield X (pc := 81) (c := 12) (i := 5) (t := 2) (a := x) (v := va_rf (some t)) rfl (by first | assumption | omega) (by decide) rfl (congrArg va_rf p773_x_16) fl_SP_43 dX11_init_81 ?_
  refine sp_callI X (pc := 84) (mc := 1) (ms := 3) (b := wk) (r := some wk) (As := [va_rf (some t)]) (rest := [va_rf (some wk), va_rf (some x)]) (c_Walk_init l G _ (P := sp_Pw P a8) (m0 := c15) (wk := wk) (t := t) (r := n12) hG Jc16 wc16 (by rintro a (z | z); exact Nat.lt_of_lt_of_le (hP a z) nnc16; rw [z]; exact wc16 a8 (by rw [t8_16]; decide)) xc16 tc16 ac16 tt_16 r4_16 tn12_16) ok_Walk_init rfl rfl lk_SP_49 rfl rfl (by simp [sp_cat_rf, sp_cat_i, sp_cat_l]) (Nat.le_of_ble_eq_true rfl) (Nat.le_of_ble_eq_true rfl) (by decide) (by decide) dX11_init_84 (sp_kV fun m84 hp84 => ?_)
  obtain ⟨c17, hc17⟩ : ∃ c, c = m84 := ⟨_, rfl⟩
  rw [← hc17]
  rw [← hc17] at hp84
  clear hc17
  obtain ⟨a15, Jc17, wc17, xc17, k0c17, k1c17, k2c17, ta15c17, la15c17, La15c17, -, ttc17⟩ := hp84
  have tx_17 := xc17.ty wc15 tx_15 (by decide)
  have T4_17 := xc17.ty wc15 T4_15 (by decide)
  have N4_17 := (xc17.ln wc15 T4_15 (by decide)).trans N4_15
  have T5_17 := xc17.ty wc15 T5_15 (by decide)
  have N5_17 := (xc17.ln wc15 T5_15 (by decide)).trans N5_15
  have C5_17 : ∀ j, j < 3 → c17.aI (G.sk 5) j = (([111, 117, 116] : List Int32) : List Int32).getD j 0 := fun j hj => by rw [(xc17.2.2.2.2.2 (G.sk 5) (wc15 (G.sk 5) (by rw [T5_15]; decide)) (fun z => z)).1]; exact C5_15 j hj
  have T6_17 := xc17.ty wc15 T6_15 (by decide)
  have N6_17 := (xc17.ln wc15 T6_15 (by decide)).trans N6_15
  have C6_17 : ∀ j, j < 4 → c17.aI (G.sk 6) j = (([104, 111, 109, 101] : List Int32) : List Int32).getD j 0 := fun j hj => by rw [(xc17.2.2.2.2.2 (G.sk 6) (wc15 (G.sk 6) (by rw [T6_15]; decide)) (fun z => z)).1]; exact C6_15 j hj
  have T7_17 := xc17.ty wc15 T7_15 (by decide)
  have N7_17 := (xc17.ln wc15 T7_15 (by decide)).trans N7_15
  have C7_17 : ∀ j, j < 3 → c17.aI (G.sk 7) j = (([107, 101, 121] : List Int32) : List Int32).getD j 0 := fun j hj => by rw [(xc17.2.2.2.2.2 (G.sk 7) (wc15 (G.sk 7) (by rw [T7_15]; decide)) (fun z => z)).1]; exact C7_15 j hj
  have trl_17 := xc17.ty wc15 trl_15 (by decide)
  have grl_17 := grl_15
  have g1_17 := (xc17.2.2.1 512 rl (wc15 rl (by rw [trl_15]; decide)) (fun z => z)).trans g1_15
  have g2_17 := (xc17.2.2.1 513 rl (wc15 rl (by rw [trl_15]; decide)) (fun z => z)).trans g2_15
  have g3_17 := (xc17.2.2.1 514 rl (wc15 rl (by rw [trl_15]; decide)) (fun z => z)).trans g3_15
  have g4_17 := (xc17.2.2.1 515 rl (wc15 rl (by rw [trl_15]; decide)) (fun z => z)).trans g4_15
  have g5_17 := (xc17.2.2.1 516 rl (wc15 rl (by rw [trl_15]; decide)) (fun z => z)).trans g5_15
  have g6_17 := (xc17.2.2.1 517 rl (wc15 rl (by rw [trl_15]; decide)) (fun z => z)).trans g6_15
  have p768_x_17 := (xc17.2.2.2.2.1 768 x (wc15 x (by rw [tx_15]; decide)) (fun z => z)).trans p768_x_15
  have tdd_17 := xc17.ty wc15 tdd_15 (by decide)
  have gdd_17 := gdd_15
  have t8_17 := xc17.ty wc15 t8_15 (by decide)
  have l8_17 := (xc17.ln wc15 t8_15 (by decide)).trans l8_15
  have d1_17 := (xc17.2.2.2.2.1 128 dd (wc15 dd (by rw [tdd_15]; decide)) (fun z => z)).trans d1_15
  have d2_17 := (xc17.2.2.1 129 dd (wc15 dd (by rw [tdd_15]; decide)) (fun z => z)).trans d2_15
  have p769_x_17 := (xc17.2.2.2.2.1 769 x (wc15 x (by rw [tx_15]; decide)) (fun z => z)).trans p769_x_15
  have ta2_17 := xc17.ty wc15 ta2_15 (by decide)
  have la2_17 := (xc17.ln wc15 ta2_15 (by decide)).trans la2_15
  have La2_17 := xc17.li wc15 La2_15 (fun z => z) (fun z => z)
  have ga2_17 := ga2_15
  have p770_x_17 := (xc17.2.2.2.2.1 770 x (wc15 x (by rw [tx_15]; decide)) (fun z => z)).trans p770_x_15
  have ta3_17 := xc17.ty wc15 ta3_15 (by decide)
  have la3_17 := (xc17.ln wc15 ta3_15 (by decide)).trans la3_15
  have La3_17 := xc17.li wc15 La3_15 (fun z => z) (fun z => z)
  have ga3_17 := ga3_15
  have p771_x_17 := (xc17.2.2.2.2.1 771 x (wc15 x (by rw [tx_15]; decide)) (fun z => z)).trans p771_x_15
  have ta4_17 := xc17.ty wc15 ta4_15 (by decide)
  have la4_17 := (xc17.ln wc15 ta4_15 (by decide)).trans la4_15
  have La4_17 := xc17.li wc15 La4_15 (fun z => z) (fun z => z)
  have ga4_17 := ga4_15
  have p772_x_17 := (xc17.2.2.2.2.1 772 x (wc15 x (by rw [tx_15]; decide)) (fun z => z)).trans p772_x_15
  have tt_17 := xc17.ty wc15 tt_15 (by decide)
  have gt_17 := gt_15
  have r0_17 := (xc17.2.2.2.2.1 640 t (wc15 t (by rw [tt_15]; decide)) (fun z => z)).trans r0_15
  have r1_17 := (xc17.2.2.2.2.1 641 t (wc15 t (by rw [tt_15]; decide)) (fun z => z)).trans r1_15
  have r2_17 := (xc17.2.2.2.2.1 642 t (wc15 t (by rw [tt_15]; decide)) (fun z => z)).trans r2_15
  have r3_17 := (xc17.2.2.2.2.1 643 t (wc15 t (by rw [tt_15]; decide)) (fun z => z)).trans r3_15
  have r4_17 := (xc17.2.2.2.2.1 644 t (wc15 t (by rw [tt_15]; decide)) (fun z => z)).trans r4_15
  have r5_17 := (xc17.2.2.2.2.1 645 t (wc15 t (by rw [tt_15]; decide)) (fun z => z)).trans r5_15
  have r6_17 := (xc17.2.2.2.2.1 646 t (wc15 t (by rw [tt_15]; decide)) (fun z => z)).trans r6_15
  have tn11_17 := xc17.ty wc15 tn11_15 (by decide)
  have tn12_17 := xc17.ty wc15 tn12_15 (by decide)
  have tn13_17 := xc17.ty wc15 tn13_15 (by decide)
  have tn14_17 := xc17.ty wc15 tn14_15 (by decide)
  have ta9_17 := xc17.ty wc15 ta9_15 (by decide)
  have ta10_17 := xc17.ty wc15 ta10_15 (by decide)
  have la9_17 := (xc17.ln wc15 ta9_15 (by decide)).trans la9_15
  have la10_17 := (xc17.ln wc15 ta10_15 (by decide)).trans la10_15
  have La9_17 := xc17.li wc15 La9_15 (fun z => z) (fun z => z)
  have La10_17 := xc17.li wc15 La10_15 (fun z => z) (fun z => z)
  have te9_17 := xc17.ty wc15 te9_15 (by decide)
  have te10_17 := xc17.ty wc15 te10_15 (by decide)
  have ce9_17 := (xc17.ln wc15 te9_15 (by decide)).trans ce9_15
  have ce10_17 := (xc17.ln wc15 te10_15 (by decide)).trans ce10_15
  have un14_17 := (xc17.2.2.1 320 n14 (wc15 n14 (by rw [tn14_15]; decide)) (fun z => z)).trans un14_15
  have qn11_17 := qn11_15.w0 wc15 xc17
  have qn12_17 := qn12_15.w0 wc15 xc17
  have qn13_17 := qn13_15.w0 wc15 xc17
  have qn14_17 := qn14_15.w0 wc15 xc17
  have qbd_17 := qbd_15.w0 wc15 xc17
  have tbd_17 := xc17.ty wc15 tbd_15 (by decide)
  have E0_17 := (congrFun (xc17.2.2.2.2.2 e9 (wc15 e9 (by rw [te9_15]; decide)) (fun z => z)).2.2 0).trans E0_15
  have E1_17 := (congrFun (xc17.2.2.2.2.2 e9 (wc15 e9 (by rw [te9_15]; decide)) (fun z => z)).2.2 1).trans E1_15
  have E2_17 := (congrFun (xc17.2.2.2.2.2 e9 (wc15 e9 (by rw [te9_15]; decide)) (fun z => z)).2.2 2).trans E2_15
  have E3_17 := (congrFun (xc17.2.2.2.2.2 e9 (wc15 e9 (by rw [te9_15]; decide)) (fun z => z)).2.2 3).trans E3_15
  have F0_17 := (congrFun (xc17.2.2.2.2.2 e10 (wc15 e10 (by rw [te10_15]; decide)) (fun z => z)).2.2 0).trans F0_15
  have p773_x_17 := (xc17.2.2.2.2.1 773 x (wc15 x (by rw [tx_15]; decide)) (fun z => z)).trans p773_x_15
  have fc17 : sp_fx m0 c17 sp_w0 := fc15.tr0 xc17
  have nnc17 : m.nx ≤ c17.nx := Nat.le_trans nnc15 xc17.1
  have tc17 : c17.ty wk = 12 := ttc17
  have gwk : m0.nx ≤ wk := by rw [hwk]; exact fc15.1
  refine sp_putR X (pc := 87) (c := 12) (i := 6) (q := 774) (a := x) rfl (by first | assumption | omega) (by decide) rfl rfl (Or.inr ⟨rfl, rfl, rfl⟩)  fl_SP_52 dX11_init_87 ?_
  obtain ⟨c18, hc18⟩ : ∃ c, c = c17.pR 774 x (some wk) := ⟨_, rfl⟩
  rw [← hc18]
  have Jc18 : sp_J G (sp_Pw P a8) (sp_E0) c18 := by rw [hc18]; exact Jc17.pR (Or.inl (by unfold sp_fk; omega))
  have wc18 : sp_wf c18 := by rw [hc18]; exact wc17
  have fc18 : sp_fx m0 c18 sp_w0 := by rw [hc18]; exact fc17.pR (Or.inr hx0)
  have tx_18 : c18.ty x = 13 := by rw [hc18]; exact tx_17
  have T4_18 : c18.ty (G.sk 4) = 24 := by rw [hc18]; exact T4_17
  have N4_18 : c18.ln (G.sk 4) = 0 := by rw [hc18]; exact N4_17
  have T5_18 : c18.ty (G.sk 5) = 24 := by rw [hc18]; exact T5_17
  have N5_18 : c18.ln (G.sk 5) = 3 := by rw [hc18]; exact N5_17
  have C5_18 : ∀ j, j < 3 → c18.aI (G.sk 5) j = (([111, 117, 116] : List Int32) : List Int32).getD j 0 := by rw [hc18]; exact C5_17
  have T6_18 : c18.ty (G.sk 6) = 24 := by rw [hc18]; exact T6_17
  have N6_18 : c18.ln (G.sk 6) = 4 := by rw [hc18]; exact N6_17
  have C6_18 : ∀ j, j < 4 → c18.aI (G.sk 6) j = (([104, 111, 109, 101] : List Int32) : List Int32).getD j 0 := by rw [hc18]; exact C6_17
  have T7_18 : c18.ty (G.sk 7) = 24 := by rw [hc18]; exact T7_17
  have N7_18 : c18.ln (G.sk 7) = 3 := by rw [hc18]; exact N7_17
  have C7_18 : ∀ j, j < 3 → c18.aI (G.sk 7) j = (([107, 101, 121] : List Int32) : List Int32).getD j 0 := by rw [hc18]; exact C7_17
  have trl_18 : c18.ty rl = 9 := by rw [hc18]; exact trl_17
  have grl_18 : m0.nx ≤ rl := grl_17
  have g1_18 : c18.fI 512 rl = x1 := by rw [hc18]; exact g1_17
  have g2_18 : c18.fI 513 rl = x2 := by rw [hc18]; exact g2_17
  have g3_18 : c18.fI 514 rl = x3 := by rw [hc18]; exact g3_17
  have g4_18 : c18.fI 515 rl = x4 := by rw [hc18]; exact g4_17
  have g5_18 : c18.fI 516 rl = x5 := by rw [hc18]; exact g5_17
  have g6_18 : c18.fI 517 rl = x6 := by rw [hc18]; exact g6_17
  have p768_x_18 : c18.fR 768 x = (some rl) := by rw [hc18, sp_pR_fR, if_neg (fun z => absurd z.1 (by decide))]; exact p768_x_17
  have tdd_18 : c18.ty dd = 3 := by rw [hc18]; exact tdd_17
  have gdd_18 : m0.nx ≤ dd := gdd_17
  have t8_18 : c18.ty a8 = 20 := by rw [hc18]; exact t8_17
  have l8_18 : c18.ln a8 = 160 := by rw [hc18]; exact l8_17
  have d1_18 : c18.fR 128 dd = some a8 := by rw [hc18, sp_pR_fR, if_neg (fun z => absurd z.1 (by decide))]; exact d1_17
  have d2_18 : c18.fI 129 dd = 0 := by rw [hc18]; exact d2_17
  have p769_x_18 : c18.fR 769 x = (some dd) := by rw [hc18, sp_pR_fR, if_neg (fun z => absurd z.1 (by decide))]; exact p769_x_17
  have ta2_18 : c18.ty a2 = 1 := by rw [hc18]; exact ta2_17
  have la2_18 : c18.ln a2 = 8 := by rw [hc18]; exact la2_17
  have La2_18 : sp_li G c18 a2 (G.sk 3) 0 := by rw [hc18]; exact La2_17.pR (by decide)
  have ga2_18 : m0.nx ≤ a2 := ga2_17
  have p770_x_18 : c18.fR 770 x = (some a2) := by rw [hc18, sp_pR_fR, if_neg (fun z => absurd z.1 (by decide))]; exact p770_x_17
  have ta3_18 : c18.ty a3 = 1 := by rw [hc18]; exact ta3_17
  have la3_18 : c18.ln a3 = 18 := by rw [hc18]; exact la3_17
  have La3_18 : sp_li G c18 a3 (G.sk 3) 0 := by rw [hc18]; exact La3_17.pR (by decide)
  have ga3_18 : m0.nx ≤ a3 := ga3_17
  have p771_x_18 : c18.fR 771 x = (some a3) := by rw [hc18, sp_pR_fR, if_neg (fun z => absurd z.1 (by decide))]; exact p771_x_17
  have ta4_18 : c18.ty a4 = 1 := by rw [hc18]; exact ta4_17
  have la4_18 : c18.ln a4 = 4 := by rw [hc18]; exact la4_17
  have La4_18 : sp_li G c18 a4 (G.sk 3) 0 := by rw [hc18]; exact La4_17.pR (by decide)
  have ga4_18 : m0.nx ≤ a4 := ga4_17
  have p772_x_18 : c18.fR 772 x = (some a4) := by rw [hc18, sp_pR_fR, if_neg (fun z => absurd z.1 (by decide))]; exact p772_x_17
  have tt_18 : c18.ty t = 11 := by rw [hc18]; exact tt_17
  have gt_18 : m0.nx ≤ t := gt_17
  have r0_18 : c18.fR 640 t = some rl := by rw [hc18, sp_pR_fR, if_neg (fun z => absurd z.1 (by decide))]; exact r0_17
  have r1_18 : c18.fR 641 t = some a9 := by rw [hc18, sp_pR_fR, if_neg (fun z => absurd z.1 (by decide))]; exact r1_17
  have r2_18 : c18.fR 642 t = some a10 := by rw [hc18, sp_pR_fR, if_neg (fun z => absurd z.1 (by decide))]; exact r2_17
  have r3_18 : c18.fR 643 t = some n11 := by rw [hc18, sp_pR_fR, if_neg (fun z => absurd z.1 (by decide))]; exact r3_17
  have r4_18 : c18.fR 644 t = some n12 := by rw [hc18, sp_pR_fR, if_neg (fun z => absurd z.1 (by decide))]; exact r4_17
  have r5_18 : c18.fR 645 t = some n13 := by rw [hc18, sp_pR_fR, if_neg (fun z => absurd z.1 (by decide))]; exact r5_17
  have r6_18 : c18.fR 646 t = some n14 := by rw [hc18, sp_pR_fR, if_neg (fun z => absurd z.1 (by decide))]; exact r6_17
  have tn11_18 : c18.ty n11 = 6 := by rw [hc18]; exact tn11_17
  have tn12_18 : c18.ty n12 = 6 := by rw [hc18]; exact tn12_17
  have tn13_18 : c18.ty n13 = 6 := by rw [hc18]; exact tn13_17
  have tn14_18 : c18.ty n14 = 6 := by rw [hc18]; exact tn14_17
  have ta9_18 : c18.ty a9 = 1 := by rw [hc18]; exact ta9_17
  have ta10_18 : c18.ty a10 = 1 := by rw [hc18]; exact ta10_17
  have la9_18 : c18.ln a9 = 6 := by rw [hc18]; exact la9_17
  have la10_18 : c18.ln a10 = 2 := by rw [hc18]; exact la10_17
  have La9_18 : sp_li G c18 a9 e9 4 := by rw [hc18]; exact La9_17.pR (by decide)
  have La10_18 : sp_li G c18 a10 e10 1 := by rw [hc18]; exact La10_17.pR (by decide)
  have te9_18 : c18.ty e9 = 23 := by rw [hc18]; exact te9_17
  have te10_18 : c18.ty e10 = 23 := by rw [hc18]; exact te10_17
  have ce9_18 : c18.ln e9 = 10 := by rw [hc18]; exact ce9_17
  have ce10_18 : c18.ln e10 = 10 := by rw [hc18]; exact ce10_17
  have un14_18 : c18.fI 320 n14 = 3 := by rw [hc18]; exact un14_17
  have qn11_18 : sp_nq c18 n11 0 none ([] : List Int32) none := by rw [hc18]; exact qn11_17.pR (by decide)
  have qn12_18 : sp_nq c18 n12 1 (some n11) ([111, 117, 116] : List Int32) none := by rw [hc18]; exact qn12_17.pR (by decide)
  have qn13_18 : sp_nq c18 n13 2 (some n11) ([104, 111, 109, 101] : List Int32) none := by rw [hc18]; exact qn13_17.pR (by decide)
  have qn14_18 : sp_nq c18 n14 3 (some n13) ([107, 101, 121] : List Int32) (some bd) := by rw [hc18]; exact qn14_17.pR (by decide)
  have qbd_18 : sp_bq c18 bd 0 8 42 := by rw [hc18]; exact qbd_17.pR (by decide)
  have tbd_18 : c18.ty bd = 2 := by rw [hc18]; exact tbd_17
  have E0_18 : c18.aR e9 0 = some n11 := by rw [hc18]; exact E0_17
  have E1_18 : c18.aR e9 1 = some n12 := by rw [hc18]; exact E1_17
  have E2_18 : c18.aR e9 2 = some n13 := by rw [hc18]; exact E2_17
  have E3_18 : c18.aR e9 3 = some n14 := by rw [hc18]; exact E3_17
  have F0_18 : c18.aR e10 0 = some bd := by rw [hc18]; exact F0_17
  have p773_x_18 : c18.fR 773 x = (some t) := by rw [hc18, sp_pR_fR, if_neg (fun z => absurd z.1 (by decide))]; exact p773_x_17
  have twk_18 : c18.ty wk = 12 := by rw [hc18]; exact tc17
  have gwk_18 : m0.nx ≤ wk := gwk
  have k0_18 : c18.fR 704 wk = some t := by rw [hc18, sp_pR_fR, if_neg (fun z => absurd z.1 (by decide))]; exact k0c17
  have k1_18 : c18.fR 705 wk = some a15 := by rw [hc18, sp_pR_fR, if_neg (fun z => absurd z.1 (by decide))]; exact k1c17
  have k2_18 : c18.fR 706 wk = some n12 := by rw [hc18, sp_pR_fR, if_neg (fun z => absurd z.1 (by decide))]; exact k2c17
  have ta15_18 : c18.ty a15 = 1 := by rw [hc18]; exact ta15c17
  have la15_18 : c18.ln a15 = 5 := by rw [hc18]; exact la15c17
  have La15_18 : sp_li G c18 a15 (G.sk 3) 0 := by rw [hc18]; exact La15c17.pR (by decide)
  have nnc18 : m.nx ≤ c18.nx := by rw [hc18]; exact nnc17
  have p774_x_18 : c18.fR 774 x = (some wk) := by rw [hc18, sp_pR_fR, if_pos ⟨rfl, rfl⟩]
  clear hc18
  clear tx_17 T4_17 N4_17 T5_17 N5_17 C5_17 T6_17 N6_17 C6_17 T7_17 N7_17 C7_17 trl_17 grl_17 g1_17 g2_17 g3_17 g4_17 g5_17 g6_17 p768_x_17 tdd_17 gdd_17 t8_17 l8_17 d1_17 d2_17 p769_x_17 ta2_17 la2_17 La2_17 ga2_17 p770_x_17 ta3_17 la3_17 La3_17 ga3_17 p771_x_17 ta4_17 la4_17 La4_17 ga4_17 p772_x_17 tt_17 gt_17 r0_17 r1_17 r2_17 r3_17 r4_17 r5_17 r6_17 tn11_17 tn12_17 tn13_17 tn14_17 ta9_17 ta10_17 la9_17 la10_17 La9_17 La10_17 te9_17 te10_17 ce9_17 ce10_17 un14_17 qn11_17 qn12_17 qn13_17 qn14_17 qbd_17 tbd_17 E0_17 E1_17 E2_17 E3_17 F0_17 p773_x_17
  refine sp_aload_n X (pc := 90) (r := some x) dX11_init_90 rfl rfl ?_
  obtain ⟨tk, htk⟩ : ∃ a, a = c18.nx := ⟨_, rfl⟩
  refine sp_new X (pc := 91) (c := 9) (N := 14) (by decide) rfl cl_SP_56 in_9 it_9 (by decide) (by decide) dX11_init_91 ?_
  rw [← htk]
  obtain ⟨c19, hc19⟩ : ∃ c, c = c18.newO 9 := ⟨_, rfl⟩
  rw [← hc19]
  have tc19 : c19.ty tk = 10 := by rw [hc19, htk, sp_newO_ty, if_pos rfl]
  have jc19 : sp_J G (sp_Pw P a8) (sp_E1 (sp_E0) tk) c19 := by subst htk; rw [hc19]; exact Jc18.newO0 wc18 9
  have Jc19 : sp_J G (sp_Pw P a8) (sp_E0) c19 := jc19.drop (fun h => by omega) (fun h => by omega) (fun h => by omega) (fun h => by omega) (fun h => by omega) (fun h => by omega)
  have wc19 : sp_wf c19 := by rw [hc19]; exact wc18.newO 9
  have xc19 : sp_fx c18 c19 sp_w0 := by rw [hc19]; exact (sp_fx.refl c18 sp_w0).newO 9
  have ac19 : c18.nx ≤ tk := by rw [htk]; exact Nat.le_refl _
  clear hc19 jc19
  have tx_19 := xc19.ty wc18 tx_18 (by decide)
  have T4_19 := xc19.ty wc18 T4_18 (by decide)
  have N4_19 := (xc19.ln wc18 T4_18 (by decide)).trans N4_18
  have T5_19 := xc19.ty wc18 T5_18 (by decide)
  have N5_19 := (xc19.ln wc18 T5_18 (by decide)).trans N5_18
  have C5_19 : ∀ j, j < 3 → c19.aI (G.sk 5) j = (([111, 117, 116] : List Int32) : List Int32).getD j 0 := fun j hj => by rw [(xc19.2.2.2.2.2 (G.sk 5) (wc18 (G.sk 5) (by rw [T5_18]; decide)) (fun z => z)).1]; exact C5_18 j hj
  have T6_19 := xc19.ty wc18 T6_18 (by decide)
  have N6_19 := (xc19.ln wc18 T6_18 (by decide)).trans N6_18
  have C6_19 : ∀ j, j < 4 → c19.aI (G.sk 6) j = (([104, 111, 109, 101] : List Int32) : List Int32).getD j 0 := fun j hj => by rw [(xc19.2.2.2.2.2 (G.sk 6) (wc18 (G.sk 6) (by rw [T6_18]; decide)) (fun z => z)).1]; exact C6_18 j hj
  have T7_19 := xc19.ty wc18 T7_18 (by decide)
  have N7_19 := (xc19.ln wc18 T7_18 (by decide)).trans N7_18
  have C7_19 : ∀ j, j < 3 → c19.aI (G.sk 7) j = (([107, 101, 121] : List Int32) : List Int32).getD j 0 := fun j hj => by rw [(xc19.2.2.2.2.2 (G.sk 7) (wc18 (G.sk 7) (by rw [T7_18]; decide)) (fun z => z)).1]; exact C7_18 j hj
  have trl_19 := xc19.ty wc18 trl_18 (by decide)
  have grl_19 := grl_18
  have g1_19 := (xc19.2.2.1 512 rl (wc18 rl (by rw [trl_18]; decide)) (fun z => z)).trans g1_18
  have g2_19 := (xc19.2.2.1 513 rl (wc18 rl (by rw [trl_18]; decide)) (fun z => z)).trans g2_18
  have g3_19 := (xc19.2.2.1 514 rl (wc18 rl (by rw [trl_18]; decide)) (fun z => z)).trans g3_18
  have g4_19 := (xc19.2.2.1 515 rl (wc18 rl (by rw [trl_18]; decide)) (fun z => z)).trans g4_18
  have g5_19 := (xc19.2.2.1 516 rl (wc18 rl (by rw [trl_18]; decide)) (fun z => z)).trans g5_18
  have g6_19 := (xc19.2.2.1 517 rl (wc18 rl (by rw [trl_18]; decide)) (fun z => z)).trans g6_18
  have p768_x_19 := (xc19.2.2.2.2.1 768 x (wc18 x (by rw [tx_18]; decide)) (fun z => z)).trans p768_x_18
  have tdd_19 := xc19.ty wc18 tdd_18 (by decide)
  have gdd_19 := gdd_18
  have t8_19 := xc19.ty wc18 t8_18 (by decide)
  have l8_19 := (xc19.ln wc18 t8_18 (by decide)).trans l8_18
  have d1_19 := (xc19.2.2.2.2.1 128 dd (wc18 dd (by rw [tdd_18]; decide)) (fun z => z)).trans d1_18
  have d2_19 := (xc19.2.2.1 129 dd (wc18 dd (by rw [tdd_18]; decide)) (fun z => z)).trans d2_18
  have p769_x_19 := (xc19.2.2.2.2.1 769 x (wc18 x (by rw [tx_18]; decide)) (fun z => z)).trans p769_x_18
  have ta2_19 := xc19.ty wc18 ta2_18 (by decide)
  have la2_19 := (xc19.ln wc18 ta2_18 (by decide)).trans la2_18
  have La2_19 := xc19.li wc18 La2_18 (fun z => z) (fun z => z)
  have ga2_19 := ga2_18
  have p770_x_19 := (xc19.2.2.2.2.1 770 x (wc18 x (by rw [tx_18]; decide)) (fun z => z)).trans p770_x_18
  have ta3_19 := xc19.ty wc18 ta3_18 (by decide)
  have la3_19 := (xc19.ln wc18 ta3_18 (by decide)).trans la3_18
  have La3_19 := xc19.li wc18 La3_18 (fun z => z) (fun z => z)
  have ga3_19 := ga3_18
  have p771_x_19 := (xc19.2.2.2.2.1 771 x (wc18 x (by rw [tx_18]; decide)) (fun z => z)).trans p771_x_18
  have ta4_19 := xc19.ty wc18 ta4_18 (by decide)
  have la4_19 := (xc19.ln wc18 ta4_18 (by decide)).trans la4_18
  have La4_19 := xc19.li wc18 La4_18 (fun z => z) (fun z => z)
  have ga4_19 := ga4_18
  have p772_x_19 := (xc19.2.2.2.2.1 772 x (wc18 x (by rw [tx_18]; decide)) (fun z => z)).trans p772_x_18
  have tt_19 := xc19.ty wc18 tt_18 (by decide)
  have gt_19 := gt_18
  have r0_19 := (xc19.2.2.2.2.1 640 t (wc18 t (by rw [tt_18]; decide)) (fun z => z)).trans r0_18
  have r1_19 := (xc19.2.2.2.2.1 641 t (wc18 t (by rw [tt_18]; decide)) (fun z => z)).trans r1_18
  have r2_19 := (xc19.2.2.2.2.1 642 t (wc18 t (by rw [tt_18]; decide)) (fun z => z)).trans r2_18
  have r3_19 := (xc19.2.2.2.2.1 643 t (wc18 t (by rw [tt_18]; decide)) (fun z => z)).trans r3_18
  have r4_19 := (xc19.2.2.2.2.1 644 t (wc18 t (by rw [tt_18]; decide)) (fun z => z)).trans r4_18
  have r5_19 := (xc19.2.2.2.2.1 645 t (wc18 t (by rw [tt_18]; decide)) (fun z => z)).trans r5_18
  have r6_19 := (xc19.2.2.2.2.1 646 t (wc18 t (by rw [tt_18]; decide)) (fun z => z)).trans r6_18
  have tn11_19 := xc19.ty wc18 tn11_18 (by decide)
  have tn12_19 := xc19.ty wc18 tn12_18 (by decide)
  have tn13_19 := xc19.ty wc18 tn13_18 (by decide)
  have tn14_19 := xc19.ty wc18 tn14_18 (by decide)
  have ta9_19 := xc19.ty wc18 ta9_18 (by decide)
  have ta10_19 := xc19.ty wc18 ta10_18 (by decide)
  have la9_19 := (xc19.ln wc18 ta9_18 (by decide)).trans la9_18
  have la10_19 := (xc19.ln wc18 ta10_18 (by decide)).trans la10_18
  have La9_19 := xc19.li wc18 La9_18 (fun z => z) (fun z => z)
  have La10_19 := xc19.li wc18 La10_18 (fun z => z) (fun z => z)
  have te9_19 := xc19.ty wc18 te9_18 (by decide)
  have te10_19 := xc19.ty wc18 te10_18 (by decide)
  have ce9_19 := (xc19.ln wc18 te9_18 (by decide)).trans ce9_18
  have ce10_19 := (xc19.ln wc18 te10_18 (by decide)).trans ce10_18
  have un14_19 := (xc19.2.2.1 320 n14 (wc18 n14 (by rw [tn14_18]; decide)) (fun z => z)).trans un14_18
  have qn11_19 := qn11_18.w0 wc18 xc19
  have qn12_19 := qn12_18.w0 wc18 xc19
  have qn13_19 := qn13_18.w0 wc18 xc19
  have qn14_19 := qn14_18.w0 wc18 xc19
  have qbd_19 := qbd_18.w0 wc18 xc19
  have tbd_19 := xc19.ty wc18 tbd_18 (by decide)
  have E0_19 := (congrFun (xc19.2.2.2.2.2 e9 (wc18 e9 (by rw [te9_18]; decide)) (fun z => z)).2.2 0).trans E0_18
  have E1_19 := (congrFun (xc19.2.2.2.2.2 e9 (wc18 e9 (by rw [te9_18]; decide)) (fun z => z)).2.2 1).trans E1_18
  have E2_19 := (congrFun (xc19.2.2.2.2.2 e9 (wc18 e9 (by rw [te9_18]; decide)) (fun z => z)).2.2 2).trans E2_18
  have E3_19 := (congrFun (xc19.2.2.2.2.2 e9 (wc18 e9 (by rw [te9_18]; decide)) (fun z => z)).2.2 3).trans E3_18
  have F0_19 := (congrFun (xc19.2.2.2.2.2 e10 (wc18 e10 (by rw [te10_18]; decide)) (fun z => z)).2.2 0).trans F0_18
  have p773_x_19 := (xc19.2.2.2.2.1 773 x (wc18 x (by rw [tx_18]; decide)) (fun z => z)).trans p773_x_18
  have twk_19 := xc19.ty wc18 twk_18 (by decide)
  have gwk_19 := gwk_18
  have k0_19 := (xc19.2.2.2.2.1 704 wk (wc18 wk (by rw [twk_18]; decide)) (fun z => z)).trans k0_18
  have k1_19 := (xc19.2.2.2.2.1 705 wk (wc18 wk (by rw [twk_18]; decide)) (fun z => z)).trans k1_18
  have k2_19 := (xc19.2.2.2.2.1 706 wk (wc18 wk (by rw [twk_18]; decide)) (fun z => z)).trans k2_18
  have ta15_19 := xc19.ty wc18 ta15_18 (by decide)
  have la15_19 := (xc19.ln wc18 ta15_18 (by decide)).trans la15_18
  have La15_19 := xc19.li wc18 La15_18 (fun z => z) (fun z => z)
  have p774_x_19 := (xc19.2.2.2.2.1 774 x (wc18 x (by rw [tx_18]; decide)) (fun z => z)).trans p774_x_18
  have fc19 : sp_fx m0 c19 sp_w0 := fc18.tr0 xc19
  have nnc19 : m.nx ≤ c19.nx := Nat.le_trans nnc18 xc19.1
  refine sp_dup X (pc := 94) dX11_init_94 (sp_cat_rf _) ?_
  refine sp_aload_n X (pc := 95) (r := some x) dX11_init_95 rfl rfl ?_
  refine sp_getfield X (pc := 96) (c := 12) (i := 0) (t := 2) (a := x) (v := va_rf (some rl)) rfl (by first | assumption | omega) (by decide) rfl (congrArg va_rf p768_x_19) fl_SP_12 dX11_init_96 ?_
  refine sp_aload_n X (pc := 99) (r := some x) dX11_init_99 rfl rfl ?_
  refine sp_getfield X (pc := 100) (c := 12) (i := 5) (t := 2) (a := x) (v := va_rf (some t)) rfl (by first | assumption | omega) (by decide) rfl (congrArg va_rf p773_x_19) fl_SP_43 dX11_init_100 ?_
  refine sp_aload_n X (pc := 103) (r := some x) dX11_init_103 rfl rfl ?_
  refine sp_getfield X (pc := 104) (c := 12) (i := 6) (t := 2) (a := x) (v := va_rf (some wk)) rfl (by first | assumption | omega) (by decide) rfl (congrArg va_rf p774_x_19) fl_SP_52 dX11_init_104 ?_
  refine sp_callI X (pc := 107) (mc := 1) (ms := 3) (b := tk) (r := some tk) (As := [va_rf (some rl), va_rf (some t), va_rf (some wk)]) (rest := [va_rf (some tk), va_rf (some x)]) (c_Taking_init l G _ (P := sp_Pw P a8) (m0 := c18) (tk := tk) (rl := rl) (t := t) (wk := wk) (r := n12) hG Jc19 wc19 (by rintro a (z | z); exact Nat.lt_of_lt_of_le (hP a z) nnc19; rw [z]; exact wc19 a8 (by rw [t8_19]; decide)) xc19 tc19 ac19 tt_19 r4_19 tn12_19) ok_Taking_init rfl rfl lk_SP_58 rfl rfl (by simp [sp_cat_rf, sp_cat_i, sp_cat_l]) (Nat.le_of_ble_eq_true rfl) (Nat.le_of_ble_eq_true rfl) (by decide) (by decide) dX11_init_107 (sp_kV fun m107 hp107 => ?_)
  obtain ⟨c20, hc20⟩ : ∃ c, c = m107 := ⟨_, rfl⟩
  rw [← hc20]
  rw [← hc20] at hp107
  clear hc20
  obtain ⟨a16, Jc20, wc20, xc20, b0c20, b1c20, b2c20, b3c20, b4c20, b5c20, b6c20, b7c20, b8c20, b9c20, bbc20, bmc20, bsc20, ta16c20, la16c20, La16c20, -, ttc20⟩ := hp107
  have tx_20 := xc20.ty wc18 tx_18 (by decide)
  have T4_20 := xc20.ty wc18 T4_18 (by decide)
  have N4_20 := (xc20.ln wc18 T4_18 (by decide)).trans N4_18
  have T5_20 := xc20.ty wc18 T5_18 (by decide)
  have N5_20 := (xc20.ln wc18 T5_18 (by decide)).trans N5_18
  have C5_20 : ∀ j, j < 3 → c20.aI (G.sk 5) j = (([111, 117, 116] : List Int32) : List Int32).getD j 0 := fun j hj => by rw [(xc20.2.2.2.2.2 (G.sk 5) (wc18 (G.sk 5) (by rw [T5_18]; decide)) (fun z => z)).1]; exact C5_18 j hj
  have T6_20 := xc20.ty wc18 T6_18 (by decide)
  have N6_20 := (xc20.ln wc18 T6_18 (by decide)).trans N6_18
  have C6_20 : ∀ j, j < 4 → c20.aI (G.sk 6) j = (([104, 111, 109, 101] : List Int32) : List Int32).getD j 0 := fun j hj => by rw [(xc20.2.2.2.2.2 (G.sk 6) (wc18 (G.sk 6) (by rw [T6_18]; decide)) (fun z => z)).1]; exact C6_18 j hj
  have T7_20 := xc20.ty wc18 T7_18 (by decide)
  have N7_20 := (xc20.ln wc18 T7_18 (by decide)).trans N7_18
  have C7_20 : ∀ j, j < 3 → c20.aI (G.sk 7) j = (([107, 101, 121] : List Int32) : List Int32).getD j 0 := fun j hj => by rw [(xc20.2.2.2.2.2 (G.sk 7) (wc18 (G.sk 7) (by rw [T7_18]; decide)) (fun z => z)).1]; exact C7_18 j hj
  have trl_20 := xc20.ty wc18 trl_18 (by decide)
  have grl_20 := grl_18
  have g1_20 := (xc20.2.2.1 512 rl (wc18 rl (by rw [trl_18]; decide)) (fun z => z)).trans g1_18
  have g2_20 := (xc20.2.2.1 513 rl (wc18 rl (by rw [trl_18]; decide)) (fun z => z)).trans g2_18
  have g3_20 := (xc20.2.2.1 514 rl (wc18 rl (by rw [trl_18]; decide)) (fun z => z)).trans g3_18
  have g4_20 := (xc20.2.2.1 515 rl (wc18 rl (by rw [trl_18]; decide)) (fun z => z)).trans g4_18
  have g5_20 := (xc20.2.2.1 516 rl (wc18 rl (by rw [trl_18]; decide)) (fun z => z)).trans g5_18
  have g6_20 := (xc20.2.2.1 517 rl (wc18 rl (by rw [trl_18]; decide)) (fun z => z)).trans g6_18
  have p768_x_20 := (xc20.2.2.2.2.1 768 x (wc18 x (by rw [tx_18]; decide)) (fun z => z)).trans p768_x_18
  have tdd_20 := xc20.ty wc18 tdd_18 (by decide)
  have gdd_20 := gdd_18
  have t8_20 := xc20.ty wc18 t8_18 (by decide)
  have l8_20 := (xc20.ln wc18 t8_18 (by decide)).trans l8_18
  have d1_20 := (xc20.2.2.2.2.1 128 dd (wc18 dd (by rw [tdd_18]; decide)) (fun z => z)).trans d1_18
  have d2_20 := (xc20.2.2.1 129 dd (wc18 dd (by rw [tdd_18]; decide)) (fun z => z)).trans d2_18
  have p769_x_20 := (xc20.2.2.2.2.1 769 x (wc18 x (by rw [tx_18]; decide)) (fun z => z)).trans p769_x_18
  have ta2_20 := xc20.ty wc18 ta2_18 (by decide)
  have la2_20 := (xc20.ln wc18 ta2_18 (by decide)).trans la2_18
  have La2_20 := xc20.li wc18 La2_18 (fun z => z) (fun z => z)
  have ga2_20 := ga2_18
  have p770_x_20 := (xc20.2.2.2.2.1 770 x (wc18 x (by rw [tx_18]; decide)) (fun z => z)).trans p770_x_18
  have ta3_20 := xc20.ty wc18 ta3_18 (by decide)
  have la3_20 := (xc20.ln wc18 ta3_18 (by decide)).trans la3_18
  have La3_20 := xc20.li wc18 La3_18 (fun z => z) (fun z => z)
  have ga3_20 := ga3_18
  have p771_x_20 := (xc20.2.2.2.2.1 771 x (wc18 x (by rw [tx_18]; decide)) (fun z => z)).trans p771_x_18
  have ta4_20 := xc20.ty wc18 ta4_18 (by decide)
  have la4_20 := (xc20.ln wc18 ta4_18 (by decide)).trans la4_18
  have La4_20 := xc20.li wc18 La4_18 (fun z => z) (fun z => z)
  have ga4_20 := ga4_18
  have p772_x_20 := (xc20.2.2.2.2.1 772 x (wc18 x (by rw [tx_18]; decide)) (fun z => z)).trans p772_x_18
  have tt_20 := xc20.ty wc18 tt_18 (by decide)
  have gt_20 := gt_18
  have r0_20 := (xc20.2.2.2.2.1 640 t (wc18 t (by rw [tt_18]; decide)) (fun z => z)).trans r0_18
  have r1_20 := (xc20.2.2.2.2.1 641 t (wc18 t (by rw [tt_18]; decide)) (fun z => z)).trans r1_18
  have r2_20 := (xc20.2.2.2.2.1 642 t (wc18 t (by rw [tt_18]; decide)) (fun z => z)).trans r2_18
  have r3_20 := (xc20.2.2.2.2.1 643 t (wc18 t (by rw [tt_18]; decide)) (fun z => z)).trans r3_18
  have r4_20 := (xc20.2.2.2.2.1 644 t (wc18 t (by rw [tt_18]; decide)) (fun z => z)).trans r4_18
  have r5_20 := (xc20.2.2.2.2.1 645 t (wc18 t (by rw [tt_18]; decide)) (fun z => z)).trans r5_18
  have r6_20 := (xc20.2.2.2.2.1 646 t (wc18 t (by rw [tt_18]; decide)) (fun z => z)).trans r6_18
  have tn11_20 := xc20.ty wc18 tn11_18 (by decide)
  have tn12_20 := xc20.ty wc18 tn12_18 (by decide)
  have tn13_20 := xc20.ty wc18 tn13_18 (by decide)
  have tn14_20 := xc20.ty wc18 tn14_18 (by decide)
  have ta9_20 := xc20.ty wc18 ta9_18 (by decide)
  have ta10_20 := xc20.ty wc18 ta10_18 (by decide)
  have la9_20 := (xc20.ln wc18 ta9_18 (by decide)).trans la9_18
  have la10_20 := (xc20.ln wc18 ta10_18 (by decide)).trans la10_18
  have La9_20 := xc20.li wc18 La9_18 (fun z => z) (fun z => z)
  have La10_20 := xc20.li wc18 La10_18 (fun z => z) (fun z => z)
  have te9_20 := xc20.ty wc18 te9_18 (by decide)
  have te10_20 := xc20.ty wc18 te10_18 (by decide)
  have ce9_20 := (xc20.ln wc18 te9_18 (by decide)).trans ce9_18
  have ce10_20 := (xc20.ln wc18 te10_18 (by decide)).trans ce10_18
  have un14_20 := (xc20.2.2.1 320 n14 (wc18 n14 (by rw [tn14_18]; decide)) (fun z => z)).trans un14_18
  have qn11_20 := qn11_18.w0 wc18 xc20
  have qn12_20 := qn12_18.w0 wc18 xc20
  have qn13_20 := qn13_18.w0 wc18 xc20
  have qn14_20 := qn14_18.w0 wc18 xc20
  have qbd_20 := qbd_18.w0 wc18 xc20
  have tbd_20 := xc20.ty wc18 tbd_18 (by decide)
  have E0_20 := (congrFun (xc20.2.2.2.2.2 e9 (wc18 e9 (by rw [te9_18]; decide)) (fun z => z)).2.2 0).trans E0_18
  have E1_20 := (congrFun (xc20.2.2.2.2.2 e9 (wc18 e9 (by rw [te9_18]; decide)) (fun z => z)).2.2 1).trans E1_18
  have E2_20 := (congrFun (xc20.2.2.2.2.2 e9 (wc18 e9 (by rw [te9_18]; decide)) (fun z => z)).2.2 2).trans E2_18
  have E3_20 := (congrFun (xc20.2.2.2.2.2 e9 (wc18 e9 (by rw [te9_18]; decide)) (fun z => z)).2.2 3).trans E3_18
  have F0_20 := (congrFun (xc20.2.2.2.2.2 e10 (wc18 e10 (by rw [te10_18]; decide)) (fun z => z)).2.2 0).trans F0_18
  have p773_x_20 := (xc20.2.2.2.2.1 773 x (wc18 x (by rw [tx_18]; decide)) (fun z => z)).trans p773_x_18
  have twk_20 := xc20.ty wc18 twk_18 (by decide)
  have gwk_20 := gwk_18
  have k0_20 := (xc20.2.2.2.2.1 704 wk (wc18 wk (by rw [twk_18]; decide)) (fun z => z)).trans k0_18
  have k1_20 := (xc20.2.2.2.2.1 705 wk (wc18 wk (by rw [twk_18]; decide)) (fun z => z)).trans k1_18
  have k2_20 := (xc20.2.2.2.2.1 706 wk (wc18 wk (by rw [twk_18]; decide)) (fun z => z)).trans k2_18
  have ta15_20 := xc20.ty wc18 ta15_18 (by decide)
  have la15_20 := (xc20.ln wc18 ta15_18 (by decide)).trans la15_18
  have La15_20 := xc20.li wc18 La15_18 (fun z => z) (fun z => z)
  have p774_x_20 := (xc20.2.2.2.2.1 774 x (wc18 x (by rw [tx_18]; decide)) (fun z => z)).trans p774_x_18
  have fc20 : sp_fx m0 c20 sp_w0 := fc18.tr0 xc20
  have nnc20 : m.nx ≤ c20.nx := Nat.le_trans nnc18 xc20.1
  have tc20 : c20.ty tk = 10 := ttc20
  have gtk : m0.nx ≤ tk := by rw [htk]; exact fc18.1
  refine sp_putR X (pc := 110) (c := 12) (i := 7) (q := 775) (a := x) rfl (by first | assumption | omega) (by decide) rfl rfl (Or.inr ⟨rfl, rfl, rfl⟩)  fl_SP_61 dX11_init_110 ?_
  obtain ⟨c21, hc21⟩ : ∃ c, c = c20.pR 775 x (some tk) := ⟨_, rfl⟩
  rw [← hc21]
  have Jc21 : sp_J G (sp_Pw P a8) (sp_E0) c21 := by rw [hc21]; exact Jc20.pR (Or.inl (by unfold sp_fk; omega))
  have wc21 : sp_wf c21 := by rw [hc21]; exact wc20
  have fc21 : sp_fx m0 c21 sp_w0 := by rw [hc21]; exact fc20.pR (Or.inr hx0)
  have tx_21 : c21.ty x = 13 := by rw [hc21]; exact tx_20
  have T4_21 : c21.ty (G.sk 4) = 24 := by rw [hc21]; exact T4_20
  have N4_21 : c21.ln (G.sk 4) = 0 := by rw [hc21]; exact N4_20
  have T5_21 : c21.ty (G.sk 5) = 24 := by rw [hc21]; exact T5_20
  have N5_21 : c21.ln (G.sk 5) = 3 := by rw [hc21]; exact N5_20
  have C5_21 : ∀ j, j < 3 → c21.aI (G.sk 5) j = (([111, 117, 116] : List Int32) : List Int32).getD j 0 := by rw [hc21]; exact C5_20
  have T6_21 : c21.ty (G.sk 6) = 24 := by rw [hc21]; exact T6_20
  have N6_21 : c21.ln (G.sk 6) = 4 := by rw [hc21]; exact N6_20
  have C6_21 : ∀ j, j < 4 → c21.aI (G.sk 6) j = (([104, 111, 109, 101] : List Int32) : List Int32).getD j 0 := by rw [hc21]; exact C6_20
  have T7_21 : c21.ty (G.sk 7) = 24 := by rw [hc21]; exact T7_20
  have N7_21 : c21.ln (G.sk 7) = 3 := by rw [hc21]; exact N7_20
  have C7_21 : ∀ j, j < 3 → c21.aI (G.sk 7) j = (([107, 101, 121] : List Int32) : List Int32).getD j 0 := by rw [hc21]; exact C7_20
  have trl_21 : c21.ty rl = 9 := by rw [hc21]; exact trl_20
  have grl_21 : m0.nx ≤ rl := grl_20
  have g1_21 : c21.fI 512 rl = x1 := by rw [hc21]; exact g1_20
  have g2_21 : c21.fI 513 rl = x2 := by rw [hc21]; exact g2_20
  have g3_21 : c21.fI 514 rl = x3 := by rw [hc21]; exact g3_20
  have g4_21 : c21.fI 515 rl = x4 := by rw [hc21]; exact g4_20
  have g5_21 : c21.fI 516 rl = x5 := by rw [hc21]; exact g5_20
  have g6_21 : c21.fI 517 rl = x6 := by rw [hc21]; exact g6_20
  have p768_x_21 : c21.fR 768 x = (some rl) := by rw [hc21, sp_pR_fR, if_neg (fun z => absurd z.1 (by decide))]; exact p768_x_20
  have tdd_21 : c21.ty dd = 3 := by rw [hc21]; exact tdd_20
  have gdd_21 : m0.nx ≤ dd := gdd_20
  have t8_21 : c21.ty a8 = 20 := by rw [hc21]; exact t8_20
  have l8_21 : c21.ln a8 = 160 := by rw [hc21]; exact l8_20
  have d1_21 : c21.fR 128 dd = some a8 := by rw [hc21, sp_pR_fR, if_neg (fun z => absurd z.1 (by decide))]; exact d1_20
  have d2_21 : c21.fI 129 dd = 0 := by rw [hc21]; exact d2_20
  have p769_x_21 : c21.fR 769 x = (some dd) := by rw [hc21, sp_pR_fR, if_neg (fun z => absurd z.1 (by decide))]; exact p769_x_20
  have ta2_21 : c21.ty a2 = 1 := by rw [hc21]; exact ta2_20
  have la2_21 : c21.ln a2 = 8 := by rw [hc21]; exact la2_20
  have La2_21 : sp_li G c21 a2 (G.sk 3) 0 := by rw [hc21]; exact La2_20.pR (by decide)
  have ga2_21 : m0.nx ≤ a2 := ga2_20
  have p770_x_21 : c21.fR 770 x = (some a2) := by rw [hc21, sp_pR_fR, if_neg (fun z => absurd z.1 (by decide))]; exact p770_x_20
  have ta3_21 : c21.ty a3 = 1 := by rw [hc21]; exact ta3_20
  have la3_21 : c21.ln a3 = 18 := by rw [hc21]; exact la3_20
  have La3_21 : sp_li G c21 a3 (G.sk 3) 0 := by rw [hc21]; exact La3_20.pR (by decide)
  have ga3_21 : m0.nx ≤ a3 := ga3_20
  have p771_x_21 : c21.fR 771 x = (some a3) := by rw [hc21, sp_pR_fR, if_neg (fun z => absurd z.1 (by decide))]; exact p771_x_20
  have ta4_21 : c21.ty a4 = 1 := by rw [hc21]; exact ta4_20
  have la4_21 : c21.ln a4 = 4 := by rw [hc21]; exact la4_20
  have La4_21 : sp_li G c21 a4 (G.sk 3) 0 := by rw [hc21]; exact La4_20.pR (by decide)
  have ga4_21 : m0.nx ≤ a4 := ga4_20
  have p772_x_21 : c21.fR 772 x = (some a4) := by rw [hc21, sp_pR_fR, if_neg (fun z => absurd z.1 (by decide))]; exact p772_x_20
  have tt_21 : c21.ty t = 11 := by rw [hc21]; exact tt_20
  have gt_21 : m0.nx ≤ t := gt_20
  have r0_21 : c21.fR 640 t = some rl := by rw [hc21, sp_pR_fR, if_neg (fun z => absurd z.1 (by decide))]; exact r0_20
  have r1_21 : c21.fR 641 t = some a9 := by rw [hc21, sp_pR_fR, if_neg (fun z => absurd z.1 (by decide))]; exact r1_20
  have r2_21 : c21.fR 642 t = some a10 := by rw [hc21, sp_pR_fR, if_neg (fun z => absurd z.1 (by decide))]; exact r2_20
  have r3_21 : c21.fR 643 t = some n11 := by rw [hc21, sp_pR_fR, if_neg (fun z => absurd z.1 (by decide))]; exact r3_20
  have r4_21 : c21.fR 644 t = some n12 := by rw [hc21, sp_pR_fR, if_neg (fun z => absurd z.1 (by decide))]; exact r4_20
  have r5_21 : c21.fR 645 t = some n13 := by rw [hc21, sp_pR_fR, if_neg (fun z => absurd z.1 (by decide))]; exact r5_20
  have r6_21 : c21.fR 646 t = some n14 := by rw [hc21, sp_pR_fR, if_neg (fun z => absurd z.1 (by decide))]; exact r6_20
  have tn11_21 : c21.ty n11 = 6 := by rw [hc21]; exact tn11_20
  have tn12_21 : c21.ty n12 = 6 := by rw [hc21]; exact tn12_20
  have tn13_21 : c21.ty n13 = 6 := by rw [hc21]; exact tn13_20
  have tn14_21 : c21.ty n14 = 6 := by rw [hc21]; exact tn14_20
  have ta9_21 : c21.ty a9 = 1 := by rw [hc21]; exact ta9_20
  have ta10_21 : c21.ty a10 = 1 := by rw [hc21]; exact ta10_20
  have la9_21 : c21.ln a9 = 6 := by rw [hc21]; exact la9_20
  have la10_21 : c21.ln a10 = 2 := by rw [hc21]; exact la10_20
  have La9_21 : sp_li G c21 a9 e9 4 := by rw [hc21]; exact La9_20.pR (by decide)
  have La10_21 : sp_li G c21 a10 e10 1 := by rw [hc21]; exact La10_20.pR (by decide)
  have te9_21 : c21.ty e9 = 23 := by rw [hc21]; exact te9_20
  have te10_21 : c21.ty e10 = 23 := by rw [hc21]; exact te10_20
  have ce9_21 : c21.ln e9 = 10 := by rw [hc21]; exact ce9_20
  have ce10_21 : c21.ln e10 = 10 := by rw [hc21]; exact ce10_20
  have un14_21 : c21.fI 320 n14 = 3 := by rw [hc21]; exact un14_20
  have qn11_21 : sp_nq c21 n11 0 none ([] : List Int32) none := by rw [hc21]; exact qn11_20.pR (by decide)
  have qn12_21 : sp_nq c21 n12 1 (some n11) ([111, 117, 116] : List Int32) none := by rw [hc21]; exact qn12_20.pR (by decide)
  have qn13_21 : sp_nq c21 n13 2 (some n11) ([104, 111, 109, 101] : List Int32) none := by rw [hc21]; exact qn13_20.pR (by decide)
  have qn14_21 : sp_nq c21 n14 3 (some n13) ([107, 101, 121] : List Int32) (some bd) := by rw [hc21]; exact qn14_20.pR (by decide)
  have qbd_21 : sp_bq c21 bd 0 8 42 := by rw [hc21]; exact qbd_20.pR (by decide)
  have tbd_21 : c21.ty bd = 2 := by rw [hc21]; exact tbd_20
  have E0_21 : c21.aR e9 0 = some n11 := by rw [hc21]; exact E0_20
  have E1_21 : c21.aR e9 1 = some n12 := by rw [hc21]; exact E1_20
  have E2_21 : c21.aR e9 2 = some n13 := by rw [hc21]; exact E2_20
  have E3_21 : c21.aR e9 3 = some n14 := by rw [hc21]; exact E3_20
  have F0_21 : c21.aR e10 0 = some bd := by rw [hc21]; exact F0_20
  have p773_x_21 : c21.fR 773 x = (some t) := by rw [hc21, sp_pR_fR, if_neg (fun z => absurd z.1 (by decide))]; exact p773_x_20
  have twk_21 : c21.ty wk = 12 := by rw [hc21]; exact twk_20
  have gwk_21 : m0.nx ≤ wk := gwk_20
  have k0_21 : c21.fR 704 wk = some t := by rw [hc21, sp_pR_fR, if_neg (fun z => absurd z.1 (by decide))]; exact k0_20
  have k1_21 : c21.fR 705 wk = some a15 := by rw [hc21, sp_pR_fR, if_neg (fun z => absurd z.1 (by decide))]; exact k1_20
  have k2_21 : c21.fR 706 wk = some n12 := by rw [hc21, sp_pR_fR, if_neg (fun z => absurd z.1 (by decide))]; exact k2_20
  have ta15_21 : c21.ty a15 = 1 := by rw [hc21]; exact ta15_20
  have la15_21 : c21.ln a15 = 5 := by rw [hc21]; exact la15_20
  have La15_21 : sp_li G c21 a15 (G.sk 3) 0 := by rw [hc21]; exact La15_20.pR (by decide)
  have p774_x_21 : c21.fR 774 x = (some wk) := by rw [hc21, sp_pR_fR, if_neg (fun z => absurd z.1 (by decide))]; exact p774_x_20
  have ttk_21 : c21.ty tk = 10 := by rw [hc21]; exact tc20
  have gtk_21 : m0.nx ≤ tk := gtk
  have b0_21 : c21.fR 576 tk = some rl := by rw [hc21, sp_pR_fR, if_neg (fun z => absurd z.1 (by decide))]; exact b0c20
  have b1_21 : c21.fR 577 tk = some t := by rw [hc21, sp_pR_fR, if_neg (fun z => absurd z.1 (by decide))]; exact b1c20
  have b2_21 : c21.fR 578 tk = some wk := by rw [hc21, sp_pR_fR, if_neg (fun z => absurd z.1 (by decide))]; exact b2c20
  have b3_21 : c21.fR 579 tk = some a16 := by rw [hc21, sp_pR_fR, if_neg (fun z => absurd z.1 (by decide))]; exact b3c20
  have b4_21 : c21.fR 584 tk = some n12 := by rw [hc21, sp_pR_fR, if_neg (fun z => absurd z.1 (by decide))]; exact b4c20
  have b5_21 : c21.fR 586 tk = none := by rw [hc21, sp_pR_fR, if_neg (fun z => absurd z.1 (by decide))]; exact b5c20
  have b6_21 : c21.fR 587 tk = none := by rw [hc21, sp_pR_fR, if_neg (fun z => absurd z.1 (by decide))]; exact b6c20
  have b7_21 : c21.fR 588 tk = none := by rw [hc21, sp_pR_fR, if_neg (fun z => absurd z.1 (by decide))]; exact b7c20
  have b8_21 : c21.fI 589 tk = 0 := by rw [hc21]; exact b8c20
  have b9_21 : c21.fL 580 tk = 1000000 := by rw [hc21]; exact b9c20
  have bb_21 : c21.fL 581 tk = 4611686018427387904 := by rw [hc21]; exact bbc20
  have bm_21 : c21.fI 582 tk = 0 := by rw [hc21]; exact bmc20
  have bs_21 : c21.fL 583 tk = 0 := by rw [hc21]; exact bsc20
  have ta16_21 : c21.ty a16 = 1 := by rw [hc21]; exact ta16c20
  have la16_21 : c21.ln a16 = 7 := by rw [hc21]; exact la16c20
  have La16_21 : sp_li G c21 a16 (G.sk 3) 0 := by rw [hc21]; exact La16c20.pR (by decide)
  have nnc21 : m.nx ≤ c21.nx := by rw [hc21]; exact nnc20
  have p775_x_21 : c21.fR 775 x = (some tk) := by rw [hc21, sp_pR_fR, if_pos ⟨rfl, rfl⟩]
  clear hc21
  clear tx_20 T4_20 N4_20 T5_20 N5_20 C5_20 T6_20 N6_20 C6_20 T7_20 N7_20 C7_20 trl_20 grl_20 g1_20 g2_20 g3_20 g4_20 g5_20 g6_20 p768_x_20 tdd_20 gdd_20 t8_20 l8_20 d1_20 d2_20 p769_x_20 ta2_20 la2_20 La2_20 ga2_20 p770_x_20 ta3_20 la3_20 La3_20 ga3_20 p771_x_20 ta4_20 la4_20 La4_20 ga4_20 p772_x_20 tt_20 gt_20 r0_20 r1_20 r2_20 r3_20 r4_20 r5_20 r6_20 tn11_20 tn12_20 tn13_20 tn14_20 ta9_20 ta10_20 la9_20 la10_20 La9_20 La10_20 te9_20 te10_20 ce9_20 ce10_20 un14_20 qn11_20 qn12_20 qn13_20 qn14_20 qbd_20 tbd_20 E0_20 E1_20 E2_20 E3_20 F0_20 p773_x_20 twk_20 gwk_20 k0_20 k1_20 k2_20 ta15_20 la15_20 La15_20 p774_x_20
  refine sp_aload_n X (pc := 113) (r := some x) dX11_init_113 rfl rfl ?_
  refine sp_iconst X (pc := 114) (v := 0) dX11_init_114 (by decide) ?_
  refine sp_putI X (pc := 115) (c := 12) (i := 8) (q := 776) (a := x) rfl (by first | assumption | omega) (by decide) rfl rfl (Or.inl rfl) ⟨rfl, rfl⟩ fl_SP_65 dX11_init_115 ?_
  obtain ⟨c22, hc22⟩ : ∃ c, c = c21.pI 776 x 0 := ⟨_, rfl⟩
  rw [← hc22]
  have Jc22 : sp_J G (sp_Pw P a8) (sp_E0) c22 := by rw [hc22]; exact Jc21.pI (by decide)
  have wc22 : sp_wf c22 := by rw [hc22]; exact wc21
  have fc22 : sp_fx m0 c22 sp_w0 := by rw [hc22]; exact fc21.pI (Or.inr hx0)
  have tx_22 : c22.ty x = 13 := by rw [hc22]; exact tx_21
  have T4_22 : c22.ty (G.sk 4) = 24 := by rw [hc22]; exact T4_21
  have N4_22 : c22.ln (G.sk 4) = 0 := by rw [hc22]; exact N4_21
  have T5_22 : c22.ty (G.sk 5) = 24 := by rw [hc22]; exact T5_21
  have N5_22 : c22.ln (G.sk 5) = 3 := by rw [hc22]; exact N5_21
  have C5_22 : ∀ j, j < 3 → c22.aI (G.sk 5) j = (([111, 117, 116] : List Int32) : List Int32).getD j 0 := by rw [hc22]; exact C5_21
  have T6_22 : c22.ty (G.sk 6) = 24 := by rw [hc22]; exact T6_21
  have N6_22 : c22.ln (G.sk 6) = 4 := by rw [hc22]; exact N6_21
  have C6_22 : ∀ j, j < 4 → c22.aI (G.sk 6) j = (([104, 111, 109, 101] : List Int32) : List Int32).getD j 0 := by rw [hc22]; exact C6_21
  have T7_22 : c22.ty (G.sk 7) = 24 := by rw [hc22]; exact T7_21
  have N7_22 : c22.ln (G.sk 7) = 3 := by rw [hc22]; exact N7_21
  have C7_22 : ∀ j, j < 3 → c22.aI (G.sk 7) j = (([107, 101, 121] : List Int32) : List Int32).getD j 0 := by rw [hc22]; exact C7_21
  have trl_22 : c22.ty rl = 9 := by rw [hc22]; exact trl_21
  have grl_22 : m0.nx ≤ rl := grl_21
  have g1_22 : c22.fI 512 rl = x1 := by rw [hc22, sp_pI_fI, if_neg (fun z => absurd z.1 (by decide))]; exact g1_21
  have g2_22 : c22.fI 513 rl = x2 := by rw [hc22, sp_pI_fI, if_neg (fun z => absurd z.1 (by decide))]; exact g2_21
  have g3_22 : c22.fI 514 rl = x3 := by rw [hc22, sp_pI_fI, if_neg (fun z => absurd z.1 (by decide))]; exact g3_21
  have g4_22 : c22.fI 515 rl = x4 := by rw [hc22, sp_pI_fI, if_neg (fun z => absurd z.1 (by decide))]; exact g4_21
  have g5_22 : c22.fI 516 rl = x5 := by rw [hc22, sp_pI_fI, if_neg (fun z => absurd z.1 (by decide))]; exact g5_21
  have g6_22 : c22.fI 517 rl = x6 := by rw [hc22, sp_pI_fI, if_neg (fun z => absurd z.1 (by decide))]; exact g6_21
  have p768_x_22 : c22.fR 768 x = (some rl) := by rw [hc22]; exact p768_x_21
  have tdd_22 : c22.ty dd = 3 := by rw [hc22]; exact tdd_21
  have gdd_22 : m0.nx ≤ dd := gdd_21
  have t8_22 : c22.ty a8 = 20 := by rw [hc22]; exact t8_21
  have l8_22 : c22.ln a8 = 160 := by rw [hc22]; exact l8_21
  have d1_22 : c22.fR 128 dd = some a8 := by rw [hc22]; exact d1_21
  have d2_22 : c22.fI 129 dd = 0 := by rw [hc22, sp_pI_fI, if_neg (fun z => absurd z.1 (by decide))]; exact d2_21
  have p769_x_22 : c22.fR 769 x = (some dd) := by rw [hc22]; exact p769_x_21
  have ta2_22 : c22.ty a2 = 1 := by rw [hc22]; exact ta2_21
  have la2_22 : c22.ln a2 = 8 := by rw [hc22]; exact la2_21
  have La2_22 : sp_li G c22 a2 (G.sk 3) 0 := by rw [hc22]; exact La2_21.pI (by decide)
  have ga2_22 : m0.nx ≤ a2 := ga2_21
  have p770_x_22 : c22.fR 770 x = (some a2) := by rw [hc22]; exact p770_x_21
  have ta3_22 : c22.ty a3 = 1 := by rw [hc22]; exact ta3_21
  have la3_22 : c22.ln a3 = 18 := by rw [hc22]; exact la3_21
  have La3_22 : sp_li G c22 a3 (G.sk 3) 0 := by rw [hc22]; exact La3_21.pI (by decide)
  have ga3_22 : m0.nx ≤ a3 := ga3_21
  have p771_x_22 : c22.fR 771 x = (some a3) := by rw [hc22]; exact p771_x_21
  have ta4_22 : c22.ty a4 = 1 := by rw [hc22]; exact ta4_21
  have la4_22 : c22.ln a4 = 4 := by rw [hc22]; exact la4_21
  have La4_22 : sp_li G c22 a4 (G.sk 3) 0 := by rw [hc22]; exact La4_21.pI (by decide)
  have ga4_22 : m0.nx ≤ a4 := ga4_21
  have p772_x_22 : c22.fR 772 x = (some a4) := by rw [hc22]; exact p772_x_21
  have tt_22 : c22.ty t = 11 := by rw [hc22]; exact tt_21
  have gt_22 : m0.nx ≤ t := gt_21
  have r0_22 : c22.fR 640 t = some rl := by rw [hc22]; exact r0_21
  have r1_22 : c22.fR 641 t = some a9 := by rw [hc22]; exact r1_21
  have r2_22 : c22.fR 642 t = some a10 := by rw [hc22]; exact r2_21
  have r3_22 : c22.fR 643 t = some n11 := by rw [hc22]; exact r3_21
  have r4_22 : c22.fR 644 t = some n12 := by rw [hc22]; exact r4_21
  have r5_22 : c22.fR 645 t = some n13 := by rw [hc22]; exact r5_21
  have r6_22 : c22.fR 646 t = some n14 := by rw [hc22]; exact r6_21
  have tn11_22 : c22.ty n11 = 6 := by rw [hc22]; exact tn11_21
  have tn12_22 : c22.ty n12 = 6 := by rw [hc22]; exact tn12_21
  have tn13_22 : c22.ty n13 = 6 := by rw [hc22]; exact tn13_21
  have tn14_22 : c22.ty n14 = 6 := by rw [hc22]; exact tn14_21
  have ta9_22 : c22.ty a9 = 1 := by rw [hc22]; exact ta9_21
  have ta10_22 : c22.ty a10 = 1 := by rw [hc22]; exact ta10_21
  have la9_22 : c22.ln a9 = 6 := by rw [hc22]; exact la9_21
  have la10_22 : c22.ln a10 = 2 := by rw [hc22]; exact la10_21
  have La9_22 : sp_li G c22 a9 e9 4 := by rw [hc22]; exact La9_21.pI (by decide)
  have La10_22 : sp_li G c22 a10 e10 1 := by rw [hc22]; exact La10_21.pI (by decide)
  have te9_22 : c22.ty e9 = 23 := by rw [hc22]; exact te9_21
  have te10_22 : c22.ty e10 = 23 := by rw [hc22]; exact te10_21
  have ce9_22 : c22.ln e9 = 10 := by rw [hc22]; exact ce9_21
  have ce10_22 : c22.ln e10 = 10 := by rw [hc22]; exact ce10_21
  have un14_22 : c22.fI 320 n14 = 3 := by rw [hc22, sp_pI_fI, if_neg (fun z => absurd z.1 (by decide))]; exact un14_21
  have qn11_22 : sp_nq c22 n11 0 none ([] : List Int32) none := by rw [hc22]; exact qn11_21.pI (by decide)
  have qn12_22 : sp_nq c22 n12 1 (some n11) ([111, 117, 116] : List Int32) none := by rw [hc22]; exact qn12_21.pI (by decide)
  have qn13_22 : sp_nq c22 n13 2 (some n11) ([104, 111, 109, 101] : List Int32) none := by rw [hc22]; exact qn13_21.pI (by decide)
  have qn14_22 : sp_nq c22 n14 3 (some n13) ([107, 101, 121] : List Int32) (some bd) := by rw [hc22]; exact qn14_21.pI (by decide)
  have qbd_22 : sp_bq c22 bd 0 8 42 := by rw [hc22]; exact qbd_21.pI (by decide)
  have tbd_22 : c22.ty bd = 2 := by rw [hc22]; exact tbd_21
  have E0_22 : c22.aR e9 0 = some n11 := by rw [hc22]; exact E0_21
  have E1_22 : c22.aR e9 1 = some n12 := by rw [hc22]; exact E1_21
  have E2_22 : c22.aR e9 2 = some n13 := by rw [hc22]; exact E2_21
  have E3_22 : c22.aR e9 3 = some n14 := by rw [hc22]; exact E3_21
  have F0_22 : c22.aR e10 0 = some bd := by rw [hc22]; exact F0_21
  have p773_x_22 : c22.fR 773 x = (some t) := by rw [hc22]; exact p773_x_21
  have twk_22 : c22.ty wk = 12 := by rw [hc22]; exact twk_21
  have gwk_22 : m0.nx ≤ wk := gwk_21
  have k0_22 : c22.fR 704 wk = some t := by rw [hc22]; exact k0_21
  have k1_22 : c22.fR 705 wk = some a15 := by rw [hc22]; exact k1_21
  have k2_22 : c22.fR 706 wk = some n12 := by rw [hc22]; exact k2_21
  have ta15_22 : c22.ty a15 = 1 := by rw [hc22]; exact ta15_21
  have la15_22 : c22.ln a15 = 5 := by rw [hc22]; exact la15_21
  have La15_22 : sp_li G c22 a15 (G.sk 3) 0 := by rw [hc22]; exact La15_21.pI (by decide)
  have p774_x_22 : c22.fR 774 x = (some wk) := by rw [hc22]; exact p774_x_21
  have ttk_22 : c22.ty tk = 10 := by rw [hc22]; exact ttk_21
  have gtk_22 : m0.nx ≤ tk := gtk_21
  have b0_22 : c22.fR 576 tk = some rl := by rw [hc22]; exact b0_21
  have b1_22 : c22.fR 577 tk = some t := by rw [hc22]; exact b1_21
  have b2_22 : c22.fR 578 tk = some wk := by rw [hc22]; exact b2_21
  have b3_22 : c22.fR 579 tk = some a16 := by rw [hc22]; exact b3_21
  have b4_22 : c22.fR 584 tk = some n12 := by rw [hc22]; exact b4_21
  have b5_22 : c22.fR 586 tk = none := by rw [hc22]; exact b5_21
  have b6_22 : c22.fR 587 tk = none := by rw [hc22]; exact b6_21
  have b7_22 : c22.fR 588 tk = none := by rw [hc22]; exact b7_21
  have b8_22 : c22.fI 589 tk = 0 := by rw [hc22, sp_pI_fI, if_neg (fun z => absurd z.1 (by decide))]; exact b8_21
  have b9_22 : c22.fL 580 tk = 1000000 := by rw [hc22]; exact b9_21
  have bb_22 : c22.fL 581 tk = 4611686018427387904 := by rw [hc22]; exact bb_21
  have bm_22 : c22.fI 582 tk = 0 := by rw [hc22, sp_pI_fI, if_neg (fun z => absurd z.1 (by decide))]; exact bm_21
  have bs_22 : c22.fL 583 tk = 0 := by rw [hc22]; exact bs_21
  have ta16_22 : c22.ty a16 = 1 := by rw [hc22]; exact ta16_21
  have la16_22 : c22.ln a16 = 7 := by rw [hc22]; exact la16_21
  have La16_22 : sp_li G c22 a16 (G.sk 3) 0 := by rw [hc22]; exact La16_21.pI (by decide)
  have p775_x_22 : c22.fR 775 x = (some tk) := by rw [hc22]; exact p775_x_21
  have nnc22 : m.nx ≤ c22.nx := by rw [hc22]; exact nnc21
  have p776_x_22 : c22.fI 776 x = 0 := by rw [hc22, sp_pI_fI, if_pos ⟨rfl, rfl⟩]
  clear hc22
  clear tx_21 T4_21 N4_21 T5_21 N5_21 C5_21 T6_21 N6_21 C6_21 T7_21 N7_21 C7_21 trl_21 grl_21 g1_21 g2_21 g3_21 g4_21 g5_21 g6_21 p768_x_21 tdd_21 gdd_21 t8_21 l8_21 d1_21 d2_21 p769_x_21 ta2_21 la2_21 La2_21 ga2_21 p770_x_21 ta3_21 la3_21 La3_21 ga3_21 p771_x_21 ta4_21 la4_21 La4_21 ga4_21 p772_x_21 tt_21 gt_21 r0_21 r1_21 r2_21 r3_21 r4_21 r5_21 r6_21 tn11_21 tn12_21 tn13_21 tn14_21 ta9_21 ta10_21 la9_21 la10_21 La9_21 La10_21 te9_21 te10_21 ce9_21 ce10_21 un14_21 qn11_21 qn12_21 qn13_21 qn14_21 qbd_21 tbd_21 E0_21 E1_21 E2_21 E3_21 F0_21 p773_x_21 twk_21 gwk_21 k0_21 k1_21 k2_21 ta15_21 la15_21 La15_21 p774_x_21 ttk_21 gtk_21 b0_21 b1_21 b2_21 b3_21 b4_21 b5_21 b6_21 b7_21 b8_21 b9_21 bb_21 bm_21 bs_21 ta16_21 la16_21 La16_21 p775_x_21
  refine sp_return X (pc := 118) dX11_init_118 ⟨rfl, ?_⟩
  have hS : sp_S G c22 (fun j => [rl, dd, a2, a3, a4, t, wk, tk, a8, a9, a10, n11, n12, n13, n14, a15, a16, x].getD j 0) := by
    refine ⟨List.forall_mem_cons.mpr ⟨trl_22, List.forall_mem_cons.mpr ⟨tdd_22, List.forall_mem_cons.mpr ⟨ta2_22, List.forall_mem_cons.mpr ⟨ta3_22, List.forall_mem_cons.mpr ⟨ta4_22, List.forall_mem_cons.mpr ⟨tt_22, List.forall_mem_cons.mpr ⟨twk_22, List.forall_mem_cons.mpr ⟨ttk_22, List.forall_mem_cons.mpr ⟨t8_22, List.forall_mem_cons.mpr ⟨ta9_22, List.forall_mem_cons.mpr ⟨ta10_22, List.forall_mem_cons.mpr ⟨tn11_22, List.forall_mem_cons.mpr ⟨tn12_22, List.forall_mem_cons.mpr ⟨tn13_22, List.forall_mem_cons.mpr ⟨tn14_22, List.forall_mem_cons.mpr ⟨ta15_22, List.forall_mem_cons.mpr ⟨ta16_22, List.forall_mem_cons.mpr ⟨tx_22, (fun _ h => by cases h)⟩⟩⟩⟩⟩⟩⟩⟩⟩⟩⟩⟩⟩⟩⟩⟩⟩⟩, List.forall_mem_cons.mpr ⟨r0_22, List.forall_mem_cons.mpr ⟨r1_22, List.forall_mem_cons.mpr ⟨r2_22, List.forall_mem_cons.mpr ⟨r3_22, List.forall_mem_cons.mpr ⟨r4_22, List.forall_mem_cons.mpr ⟨r5_22, List.forall_mem_cons.mpr ⟨r6_22, List.forall_mem_cons.mpr ⟨d1_22, List.forall_mem_cons.mpr ⟨k0_22, List.forall_mem_cons.mpr ⟨k1_22, List.forall_mem_cons.mpr ⟨b0_22, List.forall_mem_cons.mpr ⟨b1_22, List.forall_mem_cons.mpr ⟨b2_22, List.forall_mem_cons.mpr ⟨b3_22, List.forall_mem_cons.mpr ⟨p768_x_22, List.forall_mem_cons.mpr ⟨p769_x_22, List.forall_mem_cons.mpr ⟨p770_x_22, List.forall_mem_cons.mpr ⟨p771_x_22, List.forall_mem_cons.mpr ⟨p772_x_22, List.forall_mem_cons.mpr ⟨p773_x_22, List.forall_mem_cons.mpr ⟨p774_x_22, List.forall_mem_cons.mpr ⟨p775_x_22, (fun _ h => by cases h)⟩⟩⟩⟩⟩⟩⟩⟩⟩⟩⟩⟩⟩⟩⟩⟩⟩⟩⟩⟩⟩⟩, ?_, ⟨l8_22, 0, d2_22, Nat.zero_le _⟩, ⟨⟨n12, k2_22, tn12_22⟩, ⟨n12, b4_22, tn12_22⟩, fun y hy => ?_, fun y hy => ?_, fun y hy => ?_⟩, ⟨un14_22, Or.inl b8_22⟩, ?_⟩
    · rintro j (rfl | rfl | rfl | rfl | rfl | rfl | rfl)
      · exact ⟨la2_22, G.sk 3, 0, La2_22, (by rw [Jc22.1.2]; exact Nat.zero_le _), Nat.zero_le _, by decide⟩
      · exact ⟨la3_22, G.sk 3, 0, La3_22, (by rw [Jc22.1.2]; exact Nat.zero_le _), Nat.zero_le _, by decide⟩
      · exact ⟨la4_22, G.sk 3, 0, La4_22, (by rw [Jc22.1.2]; exact Nat.zero_le _), Nat.zero_le _, by decide⟩
      · exact ⟨la9_22, e9, 4, La9_22, (by rw [ce9_22]; decide), (by decide), by decide⟩
      · exact ⟨la10_22, e10, 1, La10_22, (by rw [ce10_22]; decide), (by decide), by decide⟩
      · exact ⟨la15_22, G.sk 3, 0, La15_22, (by rw [Jc22.1.2]; exact Nat.zero_le _), Nat.zero_le _, by decide⟩
      · exact ⟨la16_22, G.sk 3, 0, La16_22, (by rw [Jc22.1.2]; exact Nat.zero_le _), Nat.zero_le _, by decide⟩
    · cases (show some y = none from hy.symm.trans b5_22)
    · cases (show some y = none from hy.symm.trans b6_22)
    · cases (show some y = none from hy.symm.trans b7_22)
    · intro ed s hli j b hj hb
      obtain ⟨rfl, rfl⟩ := sp_sz_fun La16_22 hli
      omega
  have hIp : sp_I G (sp_Pw P a8) (fun j => [rl, dd, a2, a3, a4, t, wk, tk, a8, a9, a10, n11, n12, n13, n14, a15, a16, x].getD j 0) c22 := ⟨Jc22, wc22, hS, by rintro a (z | z); exact Nat.lt_of_lt_of_le (hP a z) nnc22; rw [z]; exact wc22 a8 (by rw [t8_22]; decide)⟩
  exact ⟨fun j => [rl, dd, a2, a3, a4, t, wk, tk, a8, a9, a10, n11, n12, n13, n14, a15, a16, x].getD j 0, rfl, hIp, ⟨e9, 4, e10, 1, La9_22, La10_22, by decide⟩, fc22, d2_22, La2_22.2.2.1, La3_22.2.2.1, La4_22.2.2.1, b9_22, bb_22, ⟨by show ¬ c22.fI 512 rl = 0 ↔ _; rw [g1_22]; exact sp_hr_bo y1 (by decide), by show ¬ c22.fI 513 rl = 0 ↔ _; rw [g2_22]; exact sp_hr_bo y2 (by decide), by show ¬ c22.fI 514 rl = 0 ↔ _; rw [g3_22]; exact sp_hr_bo y3 (by decide), by show ¬ c22.fI 515 rl = 0 ↔ _; rw [g4_22]; exact sp_hr_bo y4 (by decide), by show ¬ c22.fI 516 rl = 0 ↔ _; rw [g5_22]; exact sp_hr_bo y5 (by decide), by show ¬ c22.fI 517 rl = 0 ↔ _; rw [g6_22]; exact sp_hr_bo y6 (by decide)⟩, p776_x_22, fun j => [rl, dd, a2, a3, a4, t, wk, tk, a8, a9, a10, n11, n12, n13, n14, a15, a16, x].getD (11 + j) 0, fun _ => bd, fun TT => sp_cZ.new (A := fun j => [rl, dd, a2, a3, a4, t, wk, tk, a8, a9, a10, n11, n12, n13, n14, a15, a16, x].getD j 0) La9_22 E0_22 E1_22 E2_22 E3_22 qn11_22 qn12_22 qn13_22 qn14_22 La10_22 F0_22 qbd_22 La16_22 bm_22 bs_22⟩
