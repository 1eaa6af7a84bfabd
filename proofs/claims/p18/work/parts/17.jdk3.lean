
theorem sp_li.md {G : sp_G} {m : sp_M} {o ed s : Nat} (h : sp_li G m o ed s) (v : Int32) : sp_li G (m.pI 0 o v) o ed s :=
  ⟨h.1, h.2.1, by rw [sp_pI_fI, if_neg (by simp)]; exact h.2.2.1, h.2.2.2.1, h.2.2.2.2.1, h.2.2.2.2.2⟩
/-- behind add(b) to the list o: row ed, size s -/
def sp_ad (G : sp_G) (m : sp_M) (o ed s b : Nat) (m' : sp_M) : Prop := ∃ ed', sp_li G m' o ed' (s + 1) ∧ (∀ j, j < s → m'.aR ed' j = m.aR ed j) ∧ m'.aR ed' s = some b ∧ ((s < m.ln ed ∧ ed' = ed ∧ m'.nx = m.nx ∧ m'.ty = m.ty ∧ m'.ln = m.ln) ∨ (¬ s < m.ln ed ∧ ed' = m.nx ∧ m'.nx = m.nx + 1 ∧ m'.ty = sp_u1 m.ty m.nx 23 ∧ m'.ln = sp_u1 m.ln m.nx (sp_cap (m.ln ed)))) ∧ (∀ k a, ¬ (k = 1 ∧ a = o) → m'.fR k a = m.fR k a) ∧ (∀ k a, ¬ (k = 0 ∧ a = o) → ¬ (k = 2 ∧ a = o) → m'.fI k a = m.fI k a) ∧ m'.fL = m.fL ∧ (∀ a, a ≠ m.nx → m'.aI a = m.aI a ∧ m'.aL a = m.aL a) ∧ (∀ a, a ≠ ed ∨ ¬ s < m.ln ed → a ≠ m.nx → m'.aR a = m.aR a)
set_option maxRecDepth 20000 in
theorem c_List_add1_n (l : Launch) (G : sp_G) (m : sp_M) {o ed s b : Nat} (h : sp_li G m o ed s) (hs : s < m.ln ed) (hb : sp_ob m b) : sp_C l G M_List_add1 0 0 [.ref o, .ref b] m (sp_oI fun v m' => v = 1 ∧ m' = ((m.pI 0 o (m.fI 0 o + 1)).sR ed s (some b)).pI 2 o (nI (s + 1))) := by
  refine sp_enter (lv0 := [(0, false, va_rf (some o)), (1, false, va_rf (some b))]) "java/util/ArrayList" false rfl (by decide) (fun h => by cases h) (Nat.le_of_ble_eq_true rfl) rfl ?_
  intro w X
  have ho := h.1
  have he := h.2.1
  have hed : m.ty ed = 23 := by
    have := h.2.2.2.2.2
    omega
  refine sp_aload_n X (pc := 0) (r := some o) dJx4a65c_add_9ea2d_0 rfl rfl ?_
  refine sp_dup X (pc := 1) dJx4a65c_add_9ea2d_1 (sp_cat_rf _) ?_
  refine sp_getfield X (pc := 2) (c := 0) (i := 0) (t := 0) (a := o) (v := .int (m.fI 0 o)) rfl (by first | assumption | omega) (by decide) rfl rfl fl_List_63 dJx4a65c_add_9ea2d_2 ?_
  refine sp_iconst X (pc := 5) (v := 1) dJx4a65c_add_9ea2d_5 (by decide) ?_
  refine sp_iadd X (pc := 6) dJx4a65c_add_9ea2d_6 ?_
  refine sp_putI X (pc := 7) (c := 0) (i := 0) (q := 0) (a := o) rfl (by first | assumption | omega) (by decide) rfl rfl (Or.inl rfl) ⟨rfl, rfl⟩ fl_List_63 dJx4a65c_add_9ea2d_7 ?_
  refine sp_aload_n X (pc := 10) (r := some o) dJx4a65c_add_9ea2d_10 rfl rfl ?_
  refine sp_aload_n X (pc := 11) (r := some b) dJx4a65c_add_9ea2d_11 rfl rfl ?_
  refine sp_aload_n X (pc := 12) (r := some o) dJx4a65c_add_9ea2d_12 rfl rfl ?_
  refine sp_getfield X (pc := 13) (c := 0) (i := 1) (t := 2) (a := o) (v := va_rf (some ed)) rfl (by first | assumption | omega) (by decide) rfl (congrArg va_rf he) fl_List_9 dJx4a65c_add_9ea2d_13 ?_
  refine sp_aload_n X (pc := 16) (r := some o) dJx4a65c_add_9ea2d_16 rfl rfl ?_
  refine sp_getfield X (pc := 17) (c := 0) (i := 2) (t := 0) (a := o) (v := .int (nI s)) rfl (by first | assumption | omega) (by decide) rfl (congrArg Value.int h.2.2.1) fl_List_48 dJx4a65c_add_9ea2d_17 ?_
  refine sp_callV X (pc := 20) (mc := 0) (ms := 0) (b := o) (c := 0) (r := some o) (As := [va_rf (some b), va_rf (some ed), .int (nI s)]) (rest := []) (c_List_add2_n l G _ (o := o) (ed := ed) (s := s) (b := b) ho hed hs h.2.2.2.2.1 hb) ok_List_add2 rfl (by first | assumption | omega) (by decide) rfl lk_List_131 rfl rfl (Nat.zero_le _) (Nat.le_of_ble_eq_true rfl) (Nat.le_of_ble_eq_true rfl) (Nat.zero_le _) (Nat.zero_le _) dJx4a65c_add_9ea2d_20 (sp_kV fun m20 hp20 => ?_)
  subst hp20
  refine sp_iconst X (pc := 23) (v := 1) dJx4a65c_add_9ea2d_23 (by decide) ?_
  refine sp_ireturn X (pc := 24) dJx4a65c_add_9ea2d_24 rfl ⟨_, rfl, ?_⟩
  exact ⟨rfl, rfl⟩
set_option maxRecDepth 20000 in
theorem c_List_add1_g (l : Launch) (G : sp_G) (m : sp_M) {o ed s b : Nat} (hG : sp_GS G) (h : sp_li G m o ed s) (hs : s = m.ln ed) (hs6 : s ≤ 60000) (hel : ∀ j, j < m.ln ed → ∀ y, m.aR ed j = some y → sp_ob m y) (hb : sp_ob m b) : sp_C l G M_List_add1 1 (sp_cap s) [.ref o, .ref b] m (sp_oI fun v m' => v = 1 ∧ m' = (((((m.pI 0 o (m.fI 0 o + 1)).newA 23 (sp_cap s)).wR m.nx (fun j => if j < s then m.aR ed j else none)).pR 1 o (some m.nx)).sR m.nx s (some b)).pI 2 o (nI (s + 1))) := by
  refine sp_enter (lv0 := [(0, false, va_rf (some o)), (1, false, va_rf (some b))]) "java/util/ArrayList" false rfl (by decide) (fun h => by cases h) (Nat.le_of_ble_eq_true rfl) rfl ?_
  intro w X
  have ho := h.1
  have he := h.2.1
  refine sp_aload_n X (pc := 0) (r := some o) dJx4a65c_add_9ea2d_0 rfl rfl ?_
  refine sp_dup X (pc := 1) dJx4a65c_add_9ea2d_1 (sp_cat_rf _) ?_
  refine sp_getfield X (pc := 2) (c := 0) (i := 0) (t := 0) (a := o) (v := .int (m.fI 0 o)) rfl (by first | assumption | omega) (by decide) rfl rfl fl_List_63 dJx4a65c_add_9ea2d_2 ?_
  refine sp_iconst X (pc := 5) (v := 1) dJx4a65c_add_9ea2d_5 (by decide) ?_
  refine sp_iadd X (pc := 6) dJx4a65c_add_9ea2d_6 ?_
  refine sp_putI X (pc := 7) (c := 0) (i := 0) (q := 0) (a := o) rfl (by first | assumption | omega) (by decide) rfl rfl (Or.inl rfl) ⟨rfl, rfl⟩ fl_List_63 dJx4a65c_add_9ea2d_7 ?_
  refine sp_aload_n X (pc := 10) (r := some o) dJx4a65c_add_9ea2d_10 rfl rfl ?_
  refine sp_aload_n X (pc := 11) (r := some b) dJx4a65c_add_9ea2d_11 rfl rfl ?_
  refine sp_aload_n X (pc := 12) (r := some o) dJx4a65c_add_9ea2d_12 rfl rfl ?_
  refine sp_getfield X (pc := 13) (c := 0) (i := 1) (t := 2) (a := o) (v := va_rf (some ed)) rfl (by first | assumption | omega) (by decide) rfl (congrArg va_rf he) fl_List_9 dJx4a65c_add_9ea2d_13 ?_
  refine sp_aload_n X (pc := 16) (r := some o) dJx4a65c_add_9ea2d_16 rfl rfl ?_
  refine sp_getfield X (pc := 17) (c := 0) (i := 2) (t := 0) (a := o) (v := .int (nI s)) rfl (by first | assumption | omega) (by decide) rfl (congrArg Value.int h.2.2.1) fl_List_48 dJx4a65c_add_9ea2d_17 ?_
  refine sp_callV X (pc := 20) (mc := 1) (ms := sp_cap s) (b := o) (c := 0) (r := some o) (As := [va_rf (some b), va_rf (some ed), .int (nI s)]) (rest := []) (c_List_add2_g l G _ (o := o) (ed := ed) (s := s) (b := b) hG (h.md _) hs hs6 hel hb) ok_List_add2 rfl (by first | assumption | omega) (by decide) rfl lk_List_131 rfl rfl (Nat.zero_le _) (Nat.le_of_ble_eq_true rfl) (Nat.le_of_ble_eq_true rfl) (Nat.le_refl _) (Nat.le_refl _) dJx4a65c_add_9ea2d_20 (sp_kV fun m20 hp20 => ?_)
  subst hp20
  refine sp_iconst X (pc := 23) (v := 1) dJx4a65c_add_9ea2d_23 (by decide) ?_
  refine sp_ireturn X (pc := 24) dJx4a65c_add_9ea2d_24 rfl ⟨_, rfl, ?_⟩
  exact ⟨rfl, rfl⟩

theorem sp_cap_gt (c : Nat) : c < sp_cap c := by
  unfold sp_cap
  split
  · omega
  · omega
theorem sp_cap_le (c : Nat) : sp_cap c ≤ 2 * c + 10 := by
  unfold sp_cap
  split
  · omega
  · have : c / 2 ≤ c := Nat.div_le_self c 2
    omega
/-- add: the room that it takes is known ahead -/
theorem c_List_add1 (l : Launch) (G : sp_G) (m : sp_M) {o ed s b : Nat} (hG : sp_GS G) (h : sp_li G m o ed s) (hwf : sp_wf m) (hs6 : m.ln ed ≤ 40000) (hel : ∀ j, j < s → ∀ y, m.aR ed j = some y → sp_ob m y) (hb : sp_ob m b) : sp_C l G M_List_add1 (if s < m.ln ed then 0 else 1) (if s < m.ln ed then 0 else sp_cap (m.ln ed)) [.ref o, .ref b] m (sp_oI fun v m' => v = 1 ∧ sp_ad G m o ed s b m') := by
  have hon : o ≠ m.nx := by have := hwf o (by rw [h.1]; decide); omega
  have hedn : ed ≠ m.nx := by
    have := hwf ed (by have := h.2.2.2.2.2; omega)
    omega
  by_cases hs : s < m.ln ed
  · rw [if_pos hs, if_pos hs]
    refine sp_C_mono ?_ (c_List_add1_n l G m h hs hb)
    rintro r m' ⟨v, rfl, rfl, rfl⟩
    refine ⟨_, rfl, rfl, ed, ?_, ?_, ?_, Or.inl ⟨hs, rfl, rfl, rfl, rfl⟩, ?_, ?_, rfl, ?_, ?_⟩
    · exact ⟨h.1, h.2.1, by rw [sp_pI_fI, if_pos ⟨rfl, rfl⟩], by show s + 1 ≤ m.ln ed; omega, h.2.2.2.2.1, h.2.2.2.2.2⟩
    · intro j hj
      show (if ed = ed ∧ j = s then some b else m.aR ed j) = _
      rw [if_neg (by omega)]
    · show (if ed = ed ∧ s = s then some b else m.aR ed s) = _
      rw [if_pos ⟨rfl, rfl⟩]
    · intro k a _
      rfl
    · intro k a h1 h2
      rw [sp_pI_fI, if_neg h2]
      show (m.pI 0 o (m.fI 0 o + 1)).fI k a = _
      rw [sp_pI_fI, if_neg h1]
    · intro a ha
      exact ⟨rfl, rfl⟩
    · intro a h1 h2
      funext j
      show (if a = ed ∧ j = s then some b else m.aR a j) = _
      rw [if_neg (by omega)]
  · rw [if_neg hs, if_neg hs]
    have hse : s = m.ln ed := by have := h.2.2.2.1; omega
    have hcap := sp_cap_gt (m.ln ed)
    have hcap2 := sp_cap_le (m.ln ed)
    have hC := c_List_add1_g l G m hG h hse (by omega) (fun j hj => hel j (by omega)) hb
    rw [hse] at hC
    refine sp_C_mono ?_ hC
    rintro r m' ⟨v, rfl, rfl, rfl⟩
    rw [hse]
    refine ⟨_, rfl, rfl, m.nx, ?_, ?_, ?_, Or.inr ⟨by omega, rfl, rfl, rfl, rfl⟩, ?_, ?_, rfl, ?_, ?_⟩
    · refine ⟨?_, ?_, ?_, ?_, ?_, ?_⟩
      · show (m.newA 23 (sp_cap (m.ln ed))).ty o = _
        rw [sp_newA_ty, if_neg hon]
        exact h.1
      · show (sp_u2 _ 1 o (some m.nx)) 1 o = _
        unfold sp_u2
        rw [if_pos ⟨rfl, rfl⟩]
      · rw [sp_pI_fI, if_pos ⟨rfl, rfl⟩]
      · show _ ≤ (m.newA 23 (sp_cap (m.ln ed))).ln m.nx
        rw [sp_newA_ln, if_pos rfl]
        omega
      · show (m.newA 23 (sp_cap (m.ln ed))).ln m.nx ≤ _
        rw [sp_newA_ln, if_pos rfl]
        omega
      · left
        refine ⟨?_, ?_⟩
        · show (m.newA 23 (sp_cap (m.ln ed))).ty m.nx = _
          rw [sp_newA_ty, if_pos rfl]
        · show 0 < (m.newA 23 (sp_cap (m.ln ed))).ln m.nx
          rw [sp_newA_ln, if_pos rfl]
          omega
    · intro j hj
      show (if m.nx = m.nx ∧ j = m.ln ed then some b else if m.nx = m.nx then (if j < m.ln ed then m.aR ed j else none) else (m.newA 23 (sp_cap (m.ln ed))).aR m.nx j) = _
      rw [if_neg (by omega), if_pos rfl, if_pos hj]
    · show (if m.nx = m.nx ∧ m.ln ed = m.ln ed then some b else _) = _
      rw [if_pos ⟨rfl, rfl⟩]
    · intro k a h1
      show (sp_u2 m.fR 1 o (some m.nx)) k a = _
      unfold sp_u2
      rw [if_neg h1]
    · intro k a h1 h2
      rw [sp_pI_fI, if_neg h2]
      show (m.pI 0 o (m.fI 0 o + 1)).fI k a = _
      rw [sp_pI_fI, if_neg h1]
    · intro a ha
      refine ⟨?_, ?_⟩
      · funext j
        show (if a = m.nx then 0 else m.aI a j) = _
        rw [if_neg ha]
      · funext j
        show (if a = m.nx then 0 else m.aL a j) = _
        rw [if_neg ha]
    · intro a h1 h2
      funext j
      show (if a = m.nx ∧ j = m.ln ed then some b else if a = m.nx then (if j < m.ln ed then m.aR ed j else none) else if a = m.nx then none else m.aR a j) = _
      rw [if_neg (by omega), if_neg h2, if_neg h2]
set_option maxRecDepth 20000 in
theorem c_List_init (l : Launch) (G : sp_G) (m : sp_M) {o : Nat} (hG : sp_GS G) (ho : m.ty o = 1) : sp_C l G M_List_init 0 0 [.ref o] m (sp_oV fun m' => m' = (m.pI 0 o 0).pR 1 o (some (G.sk 3))) := by
  refine sp_enter (lv0 := [(0, false, va_rf (some o))]) "java/util/ArrayList" true rfl (by decide) (fun _ => rfl) (Nat.le_of_ble_eq_true rfl) rfl ?_
  intro w X
  refine sp_aload_n X (pc := 0) (r := some o) dJx4a65c_init_da8c8_0 rfl rfl ?_
  refine sp_callI X (pc := 1) (mc := 0) (ms := 0) (b := o) (r := some o) (As := []) (rest := []) (c_AList_init l G _ ho) ok_AList_init rfl rfl lk_List_1 rfl rfl (Nat.zero_le _) (Nat.le_of_ble_eq_true rfl) (Nat.le_of_ble_eq_true rfl) (Nat.zero_le _) (Nat.zero_le _) dJx4a65c_init_da8c8_1 (sp_kV fun m1 hp1 => ?_)
  subst hp1
  refine sp_aload_n X (pc := 4) (r := some o) dJx4a65c_init_da8c8_4 rfl rfl ?_
  refine sp_getstatic X (pc := 5) (v := va_rf (some (G.sk 3))) hG.1 gs_List_39 dJx4a65c_init_da8c8_5 ?_
  refine sp_putR X (pc := 8) (c := 0) (i := 1) (q := 1) (a := o) rfl (by first | assumption | omega) (by decide) rfl rfl (Or.inl rfl)  fl_List_9 dJx4a65c_init_da8c8_8 ?_
  refine sp_return X (pc := 11) dJx4a65c_init_da8c8_11 ⟨rfl, ?_⟩
  first | exact ⟨rfl, rfl⟩ | rfl | (refine ⟨?_, rfl⟩; first | (rw [if_pos (by assumption)]; done) | (rw [if_neg (by assumption)]; done) | (split <;> simp_all; done))
set_option maxRecDepth 20000 in
theorem c_List_fastRemove (l : Launch) (G : sp_G) (m : sp_M) {o ed j : Nat} (h : sp_li G m o ed (j + 1)) : sp_C l G M_List_fastRemove 0 0 [.ref o, .ref ed, .int (nI j)] m (sp_oV fun m' => m' = ((m.pI 0 o (m.fI 0 o + 1)).pI 2 o (nI j)).sR ed j none) := by
  refine sp_enter (lv0 := [(0, false, va_rf (some o)), (1, false, va_rf (some ed)), (2, false, .int (nI j))]) "java/util/ArrayList" false rfl (by decide) (fun h => by cases h) (Nat.le_of_ble_eq_true rfl) rfl ?_
  intro w X
  have hed := h.row (by omega)
  obtain ⟨ho, he, hs, hsl, hln, -⟩ := h
  refine sp_aload_n X (pc := 0) (r := some o) dJx4a65c_fastRemove_b59b0_0 rfl rfl ?_
  refine sp_dup X (pc := 1) dJx4a65c_fastRemove_b59b0_1 (sp_cat_rf _) ?_
  refine sp_getfield X (pc := 2) (c := 0) (i := 0) (t := 0) (a := o) (v := .int (m.fI 0 o)) rfl (by first | assumption | omega) (by decide) rfl rfl fl_List_63 dJx4a65c_fastRemove_b59b0_2 ?_
  refine sp_iconst X (pc := 5) (v := 1) dJx4a65c_fastRemove_b59b0_5 (by decide) ?_
  refine sp_iadd X (pc := 6) dJx4a65c_fastRemove_b59b0_6 ?_
  refine sp_putI X (pc := 7) (c := 0) (i := 0) (q := 0) (a := o) rfl (by first | assumption | omega) (by decide) rfl rfl (Or.inl rfl) ⟨rfl, rfl⟩ fl_List_63 dJx4a65c_fastRemove_b59b0_7 ?_
  refine sp_aload_n X (pc := 10) (r := some o) dJx4a65c_fastRemove_b59b0_10 rfl rfl ?_
  refine sp_getfield X (pc := 11) (c := 0) (i := 2) (t := 0) (a := o) (v := .int (nI (j + 1))) rfl (by first | assumption | omega) (by decide) rfl (congrArg Value.int hs) fl_List_48 dJx4a65c_fastRemove_b59b0_11 ?_
  refine sp_iconst X (pc := 14) (v := 1) dJx4a65c_fastRemove_b59b0_14 (by decide) ?_
  refine sp_isub X (pc := 15) dJx4a65c_fastRemove_b59b0_15 ?_
  rw [show ((nI (j + 1)) - 1) = nI j from (nI_pred j)]
  refine sp_dup X (pc := 16) dJx4a65c_fastRemove_b59b0_16 rfl ?_
  refine sp_istore_n X (pc := 17) (lv' := [(3, false, .int (nI j)), (0, false, va_rf (some o)), (1, false, va_rf (some ed)), (2, false, .int (nI j))]) dJx4a65c_fastRemove_b59b0_17 rfl (by decide) rfl ?_
  refine sp_iload_n X (pc := 18) (x := nI j) dJx4a65c_fastRemove_b59b0_18 rfl rfl ?_
  refine sp_icmp_le X (pc := 19) (tgt := 34) dJx4a65c_fastRemove_b59b0_19 (by decide) (fun hb19 => ?_) (fun hb19 => ?_)
  · refine sp_aload_n X (pc := 34) (r := some ed) dJx4a65c_fastRemove_b59b0_34 rfl rfl ?_
    refine sp_aload_n X (pc := 35) (r := some o) dJx4a65c_fastRemove_b59b0_35 rfl rfl ?_
    refine sp_iload_n X (pc := 36) (x := nI j) dJx4a65c_fastRemove_b59b0_36 rfl rfl ?_
    refine sp_dup_x1 X (pc := 37) dJx4a65c_fastRemove_b59b0_37 rfl (sp_cat_rf _) ?_
    refine sp_putI X (pc := 38) (c := 0) (i := 2) (q := 2) (a := o) rfl (by first | assumption | omega) (by decide) rfl rfl (Or.inl rfl) ⟨rfl, rfl⟩ fl_List_48 dJx4a65c_fastRemove_b59b0_38 ?_
    refine sp_null X (pc := 41) dJx4a65c_fastRemove_b59b0_41 ?_
    refine sp_aastore X (pc := 42) (a := ed) rfl (by first | assumption | omega) (vp_in_nI (by show j < m.ln ed; omega) (by show m.ln ed < _; omega)) (fun z hz => by cases hz) dJx4a65c_fastRemove_b59b0_42 ?_
    rw [show (nI j).toNatClampNeg = j from nI_clamp (by omega)]
    refine sp_return X (pc := 43) dJx4a65c_fastRemove_b59b0_43 ⟨rfl, ?_⟩
    first | exact ⟨rfl, rfl⟩ | rfl | (refine ⟨?_, rfl⟩; first | (rw [if_pos (by assumption)]; done) | (rw [if_neg (by assumption)]; done) | (split <;> simp_all; done))
  · exact absurd (nI_le (Nat.le_refl _) (by omega)) hb19 --stop
set_option maxRecDepth 20000 in
theorem c_List_remove (l : Launch) (G : sp_G) (m : sp_M) {o ed j : Nat} (h : sp_li G m o ed (j + 1)) : sp_C l G M_List_remove 0 0 [.ref o, .int (nI j)] m (sp_oR fun v m' => v = m.aR ed j ∧ m' = ((m.pI 0 o (m.fI 0 o + 1)).pI 2 o (nI j)).sR ed j none) := by
  refine sp_enter (lv0 := [(0, false, va_rf (some o)), (1, false, .int (nI j))]) "java/util/ArrayList" false rfl (by decide) (fun h => by cases h) (Nat.le_of_ble_eq_true rfl) rfl ?_
  intro w X
  have h9 := h
  have hed := h.row (by omega)
  obtain ⟨ho, he, hs, hsl, hln, -⟩ := h
  refine sp_iload_n X (pc := 0) (x := nI j) dJx4a65c_remove_915e3_0 rfl rfl ?_
  refine sp_aload_n X (pc := 1) (r := some o) dJx4a65c_remove_915e3_1 rfl rfl ?_
  refine sp_getfield X (pc := 2) (c := 0) (i := 2) (t := 0) (a := o) (v := .int (nI (j + 1))) rfl (by first | assumption | omega) (by decide) rfl (congrArg Value.int hs) fl_List_48 dJx4a65c_remove_915e3_2 ?_
  refine sp_callS X (pc := 5) (mc := 0) (ms := 0) (As := [.int (nI j), .int (nI (j + 1))]) (rest := []) (c_Objects_checkIndex l G _ (nI_pos (by omega)) (nI_lt (by omega) (by omega))) ok_Objects_checkIndex lk_List_118 rfl rfl (Nat.zero_le _) (Nat.le_of_ble_eq_true rfl) (Nat.le_of_ble_eq_true rfl) (Nat.zero_le _) (Nat.zero_le _) dJx4a65c_remove_915e3_5 (sp_kI fun v5 m5 hp5 => ?_)
  obtain ⟨hp5v, hp5⟩ := hp5; replace hp5 := (hp5).symm; subst hp5; replace hp5v := (hp5v).symm; subst hp5v
  refine sp_pop X (pc := 8) dJx4a65c_remove_915e3_8 rfl ?_
  refine sp_aload_n X (pc := 9) (r := some o) dJx4a65c_remove_915e3_9 rfl rfl ?_
  refine sp_getfield X (pc := 10) (c := 0) (i := 1) (t := 2) (a := o) (v := va_rf (some ed)) rfl (by first | assumption | omega) (by decide) rfl (congrArg va_rf he) fl_List_9 dJx4a65c_remove_915e3_10 ?_
  refine sp_astore_n X (pc := 13) (lv' := [(2, false, va_rf (some ed)), (0, false, va_rf (some o)), (1, false, .int (nI j))]) dJx4a65c_remove_915e3_13 rfl (by decide) rfl ?_
  refine sp_aload_n X (pc := 14) (r := (some ed)) dJx4a65c_remove_915e3_14 rfl rfl ?_
  refine sp_iload_n X (pc := 15) (x := nI j) dJx4a65c_remove_915e3_15 rfl rfl ?_
  refine sp_aaload X (pc := 16) (a := ed) rfl (by first | assumption | omega) (vp_in_nI (by omega) (by omega)) dJx4a65c_remove_915e3_16 ?_
  rw [show (m.aR ed (nI j).toNatClampNeg) = m.aR ed j from (by rw [nI_clamp (by omega)])]
  refine sp_astore_n X (pc := 17) (lv' := [(3, false, va_rf (m.aR ed j)), (2, false, va_rf (some ed)), (0, false, va_rf (some o)), (1, false, .int (nI j))]) dJx4a65c_remove_915e3_17 rfl (by decide) rfl ?_
  refine sp_aload_n X (pc := 18) (r := some o) dJx4a65c_remove_915e3_18 rfl rfl ?_
  refine sp_aload_n X (pc := 19) (r := (some ed)) dJx4a65c_remove_915e3_19 rfl rfl ?_
  refine sp_iload_n X (pc := 20) (x := nI j) dJx4a65c_remove_915e3_20 rfl rfl ?_
  refine sp_callV X (pc := 21) (mc := 0) (ms := 0) (b := o) (c := 0) (r := some o) (As := [va_rf (some ed), .int (nI j)]) (rest := []) (c_List_fastRemove l G _ h9) ok_List_fastRemove rfl (by first | assumption | omega) (by decide) rfl lk_List_144 rfl rfl (Nat.zero_le _) (Nat.le_of_ble_eq_true rfl) (Nat.le_of_ble_eq_true rfl) (Nat.zero_le _) (Nat.zero_le _) dJx4a65c_remove_915e3_21 (sp_kV fun m21 hp21 => ?_)
  subst hp21
  refine sp_aload_n X (pc := 24) (r := m.aR ed j) dJx4a65c_remove_915e3_24 rfl rfl ?_
  refine sp_areturn X (pc := 25) (by first | exact Or.inl ⟨_, rfl⟩ | exact Or.inr ⟨_, rfl⟩) dJx4a65c_remove_915e3_25 ⟨_, rfl, ?_⟩
  exact ⟨rfl, rfl⟩
set_option maxRecDepth 20000 in
theorem c_List_clear (l : Launch) (G : sp_G) (m : sp_M) {o ed s : Nat} (h : sp_li G m o ed s) : sp_C l G M_List_clear 0 0 [.ref o] m (sp_oV fun m' => m' = ((m.pI 0 o (m.fI 0 o + 1)).pI 2 o 0).wR ed (fun j => if j < s then none else m.aR ed j)) := by
  refine sp_enter (lv0 := [(0, false, va_rf (some o))]) "java/util/ArrayList" false rfl (by decide) (fun h => by cases h) (Nat.le_of_ble_eq_true rfl) rfl ?_
  intro w X
  obtain ⟨ho, he, hs, hsl, hln, hk⟩ := h
  generalize hm1 : (m.pI 0 o (m.fI 0 o + 1)).pI 2 o 0 = m1
  have hty : m1.ty = m.ty := by rw [← hm1]; rfl
  have hl1 : m1.ln = m.ln := by rw [← hm1]; rfl
  have haR : m1.aR = m.aR := by rw [← hm1]; rfl
  refine sp_aload_n X (pc := 0) (r := some o) dJx4a65c_clear_da8c8_0 rfl rfl ?_
  refine sp_dup X (pc := 1) dJx4a65c_clear_da8c8_1 (sp_cat_rf _) ?_
  refine sp_getfield X (pc := 2) (c := 0) (i := 0) (t := 0) (a := o) (v := .int (m.fI 0 o)) rfl (by first | assumption | omega) (by decide) rfl rfl fl_List_63 dJx4a65c_clear_da8c8_2 ?_
  refine sp_iconst X (pc := 5) (v := 1) dJx4a65c_clear_da8c8_5 (by decide) ?_
  refine sp_iadd X (pc := 6) dJx4a65c_clear_da8c8_6 ?_
  refine sp_putI X (pc := 7) (c := 0) (i := 0) (q := 0) (a := o) rfl (by first | assumption | omega) (by decide) rfl rfl (Or.inl rfl) ⟨rfl, rfl⟩ fl_List_63 dJx4a65c_clear_da8c8_7 ?_
  refine sp_aload_n X (pc := 10) (r := some o) dJx4a65c_clear_da8c8_10 rfl rfl ?_
  refine sp_getfield X (pc := 11) (c := 0) (i := 1) (t := 2) (a := o) (v := va_rf (some ed)) rfl (by first | assumption | omega) (by decide) rfl (congrArg va_rf he) fl_List_9 dJx4a65c_clear_da8c8_11 ?_
  refine sp_astore_n X (pc := 14) (lv' := [(1, false, va_rf (some ed)), (0, false, va_rf (some o))]) dJx4a65c_clear_da8c8_14 rfl (by decide) rfl ?_
  refine sp_aload_n X (pc := 15) (r := some o) dJx4a65c_clear_da8c8_15 rfl rfl ?_
  refine sp_getfield X (pc := 16) (c := 0) (i := 2) (t := 0) (a := o) (v := .int (nI s)) rfl (by first | assumption | omega) (by decide) rfl (congrArg Value.int hs) fl_List_48 dJx4a65c_clear_da8c8_16 ?_
  refine sp_istore_n X (pc := 19) (lv' := [(2, false, .int (nI s)), (1, false, va_rf (some ed)), (0, false, va_rf (some o))]) dJx4a65c_clear_da8c8_19 rfl (by decide) rfl ?_
  refine sp_aload_n X (pc := 20) (r := some o) dJx4a65c_clear_da8c8_20 rfl rfl ?_
  refine sp_iconst X (pc := 21) (v := 0) dJx4a65c_clear_da8c8_21 (by decide) ?_
  refine sp_dup_x1 X (pc := 22) dJx4a65c_clear_da8c8_22 rfl (sp_cat_rf _) ?_
  refine sp_putI X (pc := 23) (c := 0) (i := 2) (q := 2) (a := o) rfl (by first | assumption | omega) (by decide) rfl rfl (Or.inl rfl) ⟨rfl, rfl⟩ fl_List_48 dJx4a65c_clear_da8c8_23 ?_
  rw [hm1]
  refine sp_istore_n X (pc := 26) (lv' := [(3, false, .int 0), (2, false, .int (nI s)), (1, false, va_rf (some ed)), (0, false, va_rf (some o))]) dJx4a65c_clear_da8c8_26 rfl (by decide) rfl ?_
  have loop27 : ∀ (dz : Nat) (i : Nat), i ≤ s → s - i = dz → w 0 0 (m1.wR ed (fun j => if j < i then none else m.aR ed j)) 27 [(0, false, va_rf (some o)), (1, false, va_rf (some ed)), (2, false, .int (nI s)), (3, false, .int (nI i))] [] := by
    intro dz
    induction dz using Nat.strongRecOn with
    | ind dz ih =>
      intro i hi0 hdz
      refine sp_iload_n X (pc := 27) (x := nI i) dJx4a65c_clear_da8c8_27 rfl rfl ?_
      refine sp_iload_n X (pc := 28) (x := nI s) dJx4a65c_clear_da8c8_28 rfl rfl ?_
      refine sp_icmp_ge X (pc := 29) (tgt := 42) dJx4a65c_clear_da8c8_29 (by decide) (fun hb29 => ?_) (fun hb29 => ?_)
      · have hi : i = s := by have := Nat.lt_or_ge i s; rcases this with q | q; exact absurd hb29 (nI_ge q (by omega)); omega
        refine sp_return X (pc := 42) dJx4a65c_clear_da8c8_42 ⟨rfl, ?_⟩
        rw [hi, hm1]
      · have hi : i < s := Nat.lt_of_not_le fun q => hb29 (nI_le q (by omega))
        refine sp_aload_n X (pc := 32) (r := some ed) dJx4a65c_clear_da8c8_32 rfl rfl ?_
        refine sp_iload_n X (pc := 33) (x := nI i) dJx4a65c_clear_da8c8_33 rfl rfl ?_
        refine sp_null X (pc := 34) dJx4a65c_clear_da8c8_34 ?_
        refine sp_aastore X (pc := 35) (a := ed) rfl (by show m1.ty ed = 23; rw [hty]; omega) (vp_in_nI (by show i < m1.ln ed; rw [hl1]; omega) (by show m1.ln ed < _; rw [hl1]; omega)) (fun z hz => by cases hz) dJx4a65c_clear_da8c8_35 ?_
        rw [show (nI i).toNatClampNeg = i from nI_clamp (by omega)]
        refine sp_iinc X (pc := 36) (v := nI (i + 1)) (lv' := [(3, false, .int (nI (i + 1))), (0, false, va_rf (some o)), (1, false, va_rf (some ed)), (2, false, .int (nI s))]) dJx4a65c_clear_da8c8_36 rfl (nI_1 i) (by decide) rfl ?_
        refine sp_goto X (pc := 39) (tgt := 27) dJx4a65c_clear_da8c8_39 (by decide) ?_
        refine sp_pick X [1, 2, 3, 0] (lv' := [(0, false, va_rf (some o)), (1, false, va_rf (some ed)), (2, false, .int (nI s)), (3, false, .int (nI (i + 1)))]) rfl ?_
        rw [sp_wR_sR]
        have hz := ih (s - (i + 1)) (by omega) (i + 1) (by omega) rfl
        rw [show (fun j => if j < i + 1 then none else m.aR ed j) = (fun j => if j = i then none else if j < i then none else m.aR ed j) by
          funext j
          by_cases q : j = i
          · rw [if_pos q, if_pos (by omega)]
          · rw [if_neg q]
            by_cases q2 : j < i
            · rw [if_pos q2, if_pos (by omega)]
            · rw [if_neg q2, if_neg (by omega)]] at hz
        exact hz
  refine sp_pick X [3, 2, 1, 0] (lv' := [(0, false, va_rf (some o)), (1, false, va_rf (some ed)), (2, false, .int (nI s)), (3, false, .int 0)]) rfl ?_
  have hz := loop27 _ 0 (Nat.zero_le _) rfl
  rw [sp_wR_id m1 ed _ (fun j => by rw [if_neg (by omega), haR])] at hz
  exact hz
