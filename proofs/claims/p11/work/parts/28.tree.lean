
/-- the tree's own cells: A 5 the tree, A 0 the rules, A 9 the nodes, A 10 the bodies, A 11 top, A 12 root, A 13 home, A 14 key -/
def sp_tr (m : sp_M) (A : Nat → Nat) : Prop := m.ty (A 5) = 11 ∧ m.fR 640 (A 5) = some (A 0) ∧ m.ty (A 0) = 9 ∧ m.fR 641 (A 5) = some (A 9) ∧ m.ty (A 9) = 1 ∧ m.ln (A 9) = 6 ∧ m.fR 642 (A 5) = some (A 10) ∧ m.ty (A 10) = 1 ∧ m.ln (A 10) = 2 ∧ m.fR 643 (A 5) = some (A 11) ∧ m.ty (A 11) = 6 ∧ m.fR 644 (A 5) = some (A 12) ∧ m.ty (A 12) = 6 ∧ m.fR 645 (A 5) = some (A 13) ∧ m.ty (A 13) = 6 ∧ m.fR 646 (A 5) = some (A 14) ∧ m.ty (A 14) = 6
theorem sp_J.lst {G : sp_G} {P : Nat → Prop} {m : sp_M} (hJ : sp_J G P sp_E0 m) {L r : Nat} (hL : m.ty L = 1) (hr : m.ln L = r) : ∃ ed s, sp_li G m L ed s ∧ ∀ j, j < s → ∃ b, m.aR ed j = some b ∧ m.ty b = r % 10 := by
  obtain ⟨⟨ed, s, hli, hel⟩, -⟩ := hJ.2.1 L hL (sp_e0 _)
  refine ⟨ed, s, hli, fun j hj => ?_⟩
  obtain ⟨b, q1, q2, -⟩ := hel j hj
  rw [hr] at q2
  exact ⟨b, q1, q2⟩
/-- the folder that a node is in -/
def sp_upn (m : sp_M) (a : Nat) : Option Nat := if m.fR 321 a = none then some a else m.fR 321 a
/-- n folders up -/
def sp_ch (m : sp_M) : Nat → Option Nat → Option Nat
  | 0, r => r
  | n + 1, r => (sp_ch m n r).bind (m.fR 321)
/-- a child of f that isn't GONE -/
def sp_kid (G : sp_G) (m : sp_M) (A : Nat → Nat) (f b : Nat) : Prop := m.ty b = 6 ∧ m.fI 327 b = 0 ∧ sp_upn m b = some f ∧ ∃ ed s j, sp_li G m (A 9) ed s ∧ j < s ∧ m.aR ed j = some b
theorem sp_ch_none (m : sp_M) (r : Option Nat) : ∀ n, sp_ch m n r = none → ∀ k, n ≤ k → sp_ch m k r = none := by
  intro n hn k hk
  induction k with
  | zero => rw [show (0 : Nat) = n by omega]; exact hn
  | succ k ih =>
    rcases Nat.lt_or_ge n (k + 1) with q | q
    · show (sp_ch m k r).bind _ = none
      rw [ih (by omega)]
      rfl
    · rw [show k + 1 = n by omega]; exact hn
set_option maxRecDepth 20000 in
theorem c_Tree_nodeCount (l : Launch) (G : sp_G) (m : sp_M) {A : Nat → Nat} (ht : sp_tr m A) : sp_C l G M_Tree_nodeCount 0 0 [.ref (A 5)] m (sp_oI fun v m' => v = m.fI 2 (A 9) ∧ m' = m) := by
  refine sp_enter (lv0 := [(0, false, va_rf (some (A 5)))]) "SafePaths$Tree" false rfl (by decide) (fun h => by cases h) (Nat.le_of_ble_eq_true rfl) rfl ?_
  intro w X
  obtain ⟨t0, t1, t2, t3, t4, t5, t6, t7, t8, t9, t10, t11, t12, t13, t14, t15, t16⟩ := ht
  refine sp_aload_n X (pc := 0) (r := some (A 5)) dX9_nodeCount_0 rfl rfl ?_
  refine sp_getfield X (pc := 1) (c := 10) (i := 1) (t := 2) (a := (A 5)) (v := va_rf (some (A 9))) rfl (by first | assumption | omega) (by decide) rfl (congrArg va_rf t3) fl_Tree_16 dX9_nodeCount_1 ?_
  refine sp_callV X (pc := 4) (mc := 0) (ms := 0) (b := (A 9)) (c := 0) (r := (some (A 9))) (As := []) (rest := []) (c_List_size l G _ t4) ok_List_size rfl (by first | assumption | omega) (by decide) rfl lk_Tree_72 rfl rfl (Nat.zero_le _) (Nat.le_of_ble_eq_true rfl) (Nat.le_of_ble_eq_true rfl) (Nat.zero_le _) (Nat.zero_le _) dX9_nodeCount_4 (sp_kI fun v4 m4 hp4 => ?_)
  obtain ⟨hp4v, hp4⟩ := hp4; replace hp4 := (hp4).symm; subst hp4; replace hp4v := (hp4v).symm; subst hp4v
  refine sp_ireturn X (pc := 7) dX9_nodeCount_7 rfl ⟨_, rfl, ?_⟩
  first | exact ⟨rfl, rfl⟩ | rfl | (refine ⟨?_, rfl⟩; first | (rw [if_pos (by assumption)]; done) | (rw [if_neg (by assumption)]; done) | (split <;> simp_all; done))
set_option maxRecDepth 20000 in
theorem c_Tree_bodyCount (l : Launch) (G : sp_G) (m : sp_M) {A : Nat → Nat} (ht : sp_tr m A) : sp_C l G M_Tree_bodyCount 0 0 [.ref (A 5)] m (sp_oI fun v m' => v = m.fI 2 (A 10) ∧ m' = m) := by
  refine sp_enter (lv0 := [(0, false, va_rf (some (A 5)))]) "SafePaths$Tree" false rfl (by decide) (fun h => by cases h) (Nat.le_of_ble_eq_true rfl) rfl ?_
  intro w X
  obtain ⟨t0, t1, t2, t3, t4, t5, t6, t7, t8, t9, t10, t11, t12, t13, t14, t15, t16⟩ := ht
  refine sp_aload_n X (pc := 0) (r := some (A 5)) dX9_bodyCount_0 rfl rfl ?_
  refine sp_getfield X (pc := 1) (c := 10) (i := 2) (t := 2) (a := (A 5)) (v := va_rf (some (A 10))) rfl (by first | assumption | omega) (by decide) rfl (congrArg va_rf t6) fl_Tree_20 dX9_bodyCount_1 ?_
  refine sp_callV X (pc := 4) (mc := 0) (ms := 0) (b := (A 10)) (c := 0) (r := (some (A 10))) (As := []) (rest := []) (c_List_size l G _ t7) ok_List_size rfl (by first | assumption | omega) (by decide) rfl lk_Tree_72 rfl rfl (Nat.zero_le _) (Nat.le_of_ble_eq_true rfl) (Nat.le_of_ble_eq_true rfl) (Nat.zero_le _) (Nat.zero_le _) dX9_bodyCount_4 (sp_kI fun v4 m4 hp4 => ?_)
  obtain ⟨hp4v, hp4⟩ := hp4; replace hp4 := (hp4).symm; subst hp4; replace hp4v := (hp4v).symm; subst hp4v
  refine sp_ireturn X (pc := 7) dX9_bodyCount_7 rfl ⟨_, rfl, ?_⟩
  first | exact ⟨rfl, rfl⟩ | rfl | (refine ⟨?_, rfl⟩; first | (rw [if_pos (by assumption)]; done) | (rw [if_neg (by assumption)]; done) | (split <;> simp_all; done))
set_option maxRecDepth 20000 in
theorem c_Tree_at (l : Launch) (G : sp_G) (m : sp_M) {P : Nat → Prop} {A : Nat → Nat} (hJ : sp_J G P sp_E0 m) (ht : sp_tr m A) {i : Int32} : sp_C l G M_Tree_at 0 0 [.ref (A 5), .int i] m (sp_oR fun v m' => (∃ ed s, sp_li G m (A 9) ed s ∧ ((∃ j b, j < s ∧ i = nI j ∧ v = some b ∧ m.aR ed j = some b ∧ m.ty b = 6) ∨ (¬ vp_in i s ∧ v = none))) ∧ m' = m) := by
  refine sp_enter (lv0 := [(0, false, va_rf (some (A 5))), (1, false, .int i)]) "SafePaths$Tree" false rfl (by decide) (fun h => by cases h) (Nat.le_of_ble_eq_true rfl) rfl ?_
  intro w X
  obtain ⟨t0, t1, t2, t3, t4, t5, t6, t7, t8, t9, t10, t11, t12, t13, t14, t15, t16⟩ := ht
  obtain ⟨ed, s, hli, hel6⟩ := hJ.lst t4 t5
  have hsz := hli.2.2.1
  have hs9 : s < 2 ^ 31 := by have := hli.2.2.2.1; have := hli.2.2.2.2.1; omega
  refine sp_iload_n X (pc := 0) (x := i) dX9_at_0 rfl rfl ?_
  refine sp_if_lt X (pc := 1) (tgt := 29) dX9_at_1 (by decide) (fun hb1 => ?_) (fun hb1 => ?_)
  · refine sp_null X (pc := 29) dX9_at_29 ?_
    refine sp_areturn X (pc := 30) (by first | exact Or.inl ⟨_, rfl⟩ | exact Or.inr ⟨_, rfl⟩) dX9_at_30 ⟨_, rfl, ?_⟩
    first
      | exact ⟨⟨ed, s, hli, Or.inl ⟨j, b, hj, rfl, rfl, hb, hbt⟩⟩, rfl⟩
      | exact ⟨⟨ed, s, hli, Or.inr ⟨sp_nin hs9 (Or.inl hb1), rfl⟩⟩, rfl⟩
      | exact ⟨⟨ed, s, hli, Or.inr ⟨sp_nin hs9 (Or.inr hb12), rfl⟩⟩, rfl⟩
  · refine sp_iload_n X (pc := 4) (x := i) dX9_at_4 rfl rfl ?_
    refine sp_aload_n X (pc := 5) (r := some (A 5)) dX9_at_5 rfl rfl ?_
    refine sp_getfield X (pc := 6) (c := 10) (i := 1) (t := 2) (a := (A 5)) (v := va_rf (some (A 9))) rfl (by first | assumption | omega) (by decide) rfl (congrArg va_rf t3) fl_Tree_16 dX9_at_6 ?_
    refine sp_callV X (pc := 9) (mc := 0) (ms := 0) (b := (A 9)) (c := 0) (r := (some (A 9))) (As := []) (rest := [.int i]) (c_List_size l G _ t4) ok_List_size rfl (by first | assumption | omega) (by decide) rfl lk_Tree_72 rfl rfl (by simp [sp_cat_rf, sp_cat_i, sp_cat_l]) (Nat.le_of_ble_eq_true rfl) (Nat.le_of_ble_eq_true rfl) (Nat.zero_le _) (Nat.zero_le _) dX9_at_9 (sp_kI fun v9 m9 hp9 => ?_)
    obtain ⟨hp9v, hp9⟩ := hp9; replace hp9 := (hp9).symm; subst hp9; replace hp9v := (hp9v).symm; subst hp9v
    rw [hsz]
    refine sp_icmp_ge X (pc := 12) (tgt := 29) dX9_at_12 (by decide) (fun hb12 => ?_) (fun hb12 => ?_)
    · refine sp_null X (pc := 29) dX9_at_29 ?_
      refine sp_areturn X (pc := 30) (by first | exact Or.inl ⟨_, rfl⟩ | exact Or.inr ⟨_, rfl⟩) dX9_at_30 ⟨_, rfl, ?_⟩
      first
        | exact ⟨⟨ed, s, hli, Or.inl ⟨j, b, hj, rfl, rfl, hb, hbt⟩⟩, rfl⟩
        | exact ⟨⟨ed, s, hli, Or.inr ⟨sp_nin hs9 (Or.inl hb1), rfl⟩⟩, rfl⟩
        | exact ⟨⟨ed, s, hli, Or.inr ⟨sp_nin hs9 (Or.inr hb12), rfl⟩⟩, rfl⟩
    · obtain ⟨j, hj, hij⟩ := sp_idx hs9 hb1 hb12
      subst hij
      obtain ⟨b, hb, hbt⟩ := hel6 j hj
      refine sp_aload_n X (pc := 15) (r := some (A 5)) dX9_at_15 rfl rfl ?_
      refine sp_getfield X (pc := 16) (c := 10) (i := 1) (t := 2) (a := (A 5)) (v := va_rf (some (A 9))) rfl (by first | assumption | omega) (by decide) rfl (congrArg va_rf t3) fl_Tree_16 dX9_at_16 ?_
      refine sp_iload_n X (pc := 19) (x := nI j) dX9_at_19 rfl rfl ?_
      refine sp_callV X (pc := 20) (mc := 0) (ms := 0) (b := (A 9)) (c := 0) (r := (some (A 9))) (As := [.int (nI j)]) (rest := []) (c_List_get l G _ hli hj) ok_List_get rfl (by first | assumption | omega) (by decide) rfl lk_Tree_76 rfl rfl (Nat.zero_le _) (Nat.le_of_ble_eq_true rfl) (Nat.le_of_ble_eq_true rfl) (Nat.zero_le _) (Nat.zero_le _) dX9_at_20 (sp_kR fun v20 m20 hp20 => ?_)
      obtain ⟨hp20v, hp20⟩ := hp20; replace hp20 := (hp20).symm; subst hp20; replace hp20v := (hp20v).symm; subst hp20v
      rw [hb]
      refine sp_checkcast X (pc := 23) (a := b) (c := 5) rfl (by first | assumption | omega) (by decide) cl_Tree_30 dX9_at_23 ?_
      refine sp_goto X (pc := 26) (tgt := 30) dX9_at_26 (by decide) ?_
      refine sp_areturn X (pc := 30) (by first | exact Or.inl ⟨_, rfl⟩ | exact Or.inr ⟨_, rfl⟩) dX9_at_30 ⟨_, rfl, ?_⟩
      first
        | exact ⟨⟨ed, s, hli, Or.inl ⟨j, b, hj, rfl, rfl, hb, hbt⟩⟩, rfl⟩
        | exact ⟨⟨ed, s, hli, Or.inr ⟨sp_nin hs9 (Or.inl hb1), rfl⟩⟩, rfl⟩
        | exact ⟨⟨ed, s, hli, Or.inr ⟨sp_nin hs9 (Or.inr hb12), rfl⟩⟩, rfl⟩
set_option maxRecDepth 20000 in
theorem c_Tree_bodyAt (l : Launch) (G : sp_G) (m : sp_M) {P : Nat → Prop} {A : Nat → Nat} (hJ : sp_J G P sp_E0 m) (ht : sp_tr m A) {i : Int32} : sp_C l G M_Tree_bodyAt 0 0 [.ref (A 5), .int i] m (sp_oR fun v m' => (∃ ed s, sp_li G m (A 10) ed s ∧ ((∃ j b, j < s ∧ i = nI j ∧ v = some b ∧ m.aR ed j = some b ∧ m.ty b = 2) ∨ (¬ vp_in i s ∧ v = none))) ∧ m' = m) := by
  refine sp_enter (lv0 := [(0, false, va_rf (some (A 5))), (1, false, .int i)]) "SafePaths$Tree" false rfl (by decide) (fun h => by cases h) (Nat.le_of_ble_eq_true rfl) rfl ?_
  intro w X
  obtain ⟨t0, t1, t2, t3, t4, t5, t6, t7, t8, t9, t10, t11, t12, t13, t14, t15, t16⟩ := ht
  obtain ⟨ed, s, hli, hel6⟩ := hJ.lst t7 t8
  have hsz := hli.2.2.1
  have hs9 : s < 2 ^ 31 := by have := hli.2.2.2.1; have := hli.2.2.2.2.1; omega
  refine sp_iload_n X (pc := 0) (x := i) dX9_bodyAt_0 rfl rfl ?_
  refine sp_if_lt X (pc := 1) (tgt := 29) dX9_bodyAt_1 (by decide) (fun hb1 => ?_) (fun hb1 => ?_)
  · refine sp_null X (pc := 29) dX9_bodyAt_29 ?_
    refine sp_areturn X (pc := 30) (by first | exact Or.inl ⟨_, rfl⟩ | exact Or.inr ⟨_, rfl⟩) dX9_bodyAt_30 ⟨_, rfl, ?_⟩
    first
      | exact ⟨⟨ed, s, hli, Or.inl ⟨j, b, hj, rfl, rfl, hb, hbt⟩⟩, rfl⟩
      | exact ⟨⟨ed, s, hli, Or.inr ⟨sp_nin hs9 (Or.inl hb1), rfl⟩⟩, rfl⟩
      | exact ⟨⟨ed, s, hli, Or.inr ⟨sp_nin hs9 (Or.inr hb12), rfl⟩⟩, rfl⟩
  · refine sp_iload_n X (pc := 4) (x := i) dX9_bodyAt_4 rfl rfl ?_
    refine sp_aload_n X (pc := 5) (r := some (A 5)) dX9_bodyAt_5 rfl rfl ?_
    refine sp_getfield X (pc := 6) (c := 10) (i := 2) (t := 2) (a := (A 5)) (v := va_rf (some (A 10))) rfl (by first | assumption | omega) (by decide) rfl (congrArg va_rf t6) fl_Tree_20 dX9_bodyAt_6 ?_
    refine sp_callV X (pc := 9) (mc := 0) (ms := 0) (b := (A 10)) (c := 0) (r := (some (A 10))) (As := []) (rest := [.int i]) (c_List_size l G _ t7) ok_List_size rfl (by first | assumption | omega) (by decide) rfl lk_Tree_72 rfl rfl (by simp [sp_cat_rf, sp_cat_i, sp_cat_l]) (Nat.le_of_ble_eq_true rfl) (Nat.le_of_ble_eq_true rfl) (Nat.zero_le _) (Nat.zero_le _) dX9_bodyAt_9 (sp_kI fun v9 m9 hp9 => ?_)
    obtain ⟨hp9v, hp9⟩ := hp9; replace hp9 := (hp9).symm; subst hp9; replace hp9v := (hp9v).symm; subst hp9v
    rw [hsz]
    refine sp_icmp_ge X (pc := 12) (tgt := 29) dX9_bodyAt_12 (by decide) (fun hb12 => ?_) (fun hb12 => ?_)
    · refine sp_null X (pc := 29) dX9_bodyAt_29 ?_
      refine sp_areturn X (pc := 30) (by first | exact Or.inl ⟨_, rfl⟩ | exact Or.inr ⟨_, rfl⟩) dX9_bodyAt_30 ⟨_, rfl, ?_⟩
      first
        | exact ⟨⟨ed, s, hli, Or.inl ⟨j, b, hj, rfl, rfl, hb, hbt⟩⟩, rfl⟩
        | exact ⟨⟨ed, s, hli, Or.inr ⟨sp_nin hs9 (Or.inl hb1), rfl⟩⟩, rfl⟩
        | exact ⟨⟨ed, s, hli, Or.inr ⟨sp_nin hs9 (Or.inr hb12), rfl⟩⟩, rfl⟩
    · obtain ⟨j, hj, hij⟩ := sp_idx hs9 hb1 hb12
      subst hij
      obtain ⟨b, hb, hbt⟩ := hel6 j hj
      refine sp_aload_n X (pc := 15) (r := some (A 5)) dX9_bodyAt_15 rfl rfl ?_
      refine sp_getfield X (pc := 16) (c := 10) (i := 2) (t := 2) (a := (A 5)) (v := va_rf (some (A 10))) rfl (by first | assumption | omega) (by decide) rfl (congrArg va_rf t6) fl_Tree_20 dX9_bodyAt_16 ?_
      refine sp_iload_n X (pc := 19) (x := nI j) dX9_bodyAt_19 rfl rfl ?_
      refine sp_callV X (pc := 20) (mc := 0) (ms := 0) (b := (A 10)) (c := 0) (r := (some (A 10))) (As := [.int (nI j)]) (rest := []) (c_List_get l G _ hli hj) ok_List_get rfl (by first | assumption | omega) (by decide) rfl lk_Tree_76 rfl rfl (Nat.zero_le _) (Nat.le_of_ble_eq_true rfl) (Nat.le_of_ble_eq_true rfl) (Nat.zero_le _) (Nat.zero_le _) dX9_bodyAt_20 (sp_kR fun v20 m20 hp20 => ?_)
      obtain ⟨hp20v, hp20⟩ := hp20; replace hp20 := (hp20).symm; subst hp20; replace hp20v := (hp20v).symm; subst hp20v
      rw [hb]
      refine sp_checkcast X (pc := 23) (a := b) (c := 1) rfl (by first | assumption | omega) (by decide) cl_Tree_23 dX9_bodyAt_23 ?_
      refine sp_goto X (pc := 26) (tgt := 30) dX9_bodyAt_26 (by decide) ?_
      refine sp_areturn X (pc := 30) (by first | exact Or.inl ⟨_, rfl⟩ | exact Or.inr ⟨_, rfl⟩) dX9_bodyAt_30 ⟨_, rfl, ?_⟩
      first
        | exact ⟨⟨ed, s, hli, Or.inl ⟨j, b, hj, rfl, rfl, hb, hbt⟩⟩, rfl⟩
        | exact ⟨⟨ed, s, hli, Or.inr ⟨sp_nin hs9 (Or.inl hb1), rfl⟩⟩, rfl⟩
        | exact ⟨⟨ed, s, hli, Or.inr ⟨sp_nin hs9 (Or.inr hb12), rfl⟩⟩, rfl⟩
set_option maxRecDepth 20000 in
theorem c_Tree_childOf (l : Launch) (G : sp_G) (m : sp_M) {P : Nat → Prop} {A : Nat → Nat} (hJ : sp_J G P sp_E0 m) (ht : sp_tr m A) {f nm : Nat} (hf : m.ty f = 6) (hnt : m.ty nm = 5) : sp_C l G M_Tree_childOf 0 0 [.ref (A 5), .ref f, .ref nm] m (sp_oR fun v m' => (∀ b, v = some b → sp_kid G m A f b) ∧ m' = m) := by
  refine sp_enter (lv0 := [(0, false, va_rf (some (A 5))), (1, false, va_rf (some f)), (2, false, va_rf (some nm))]) "SafePaths$Tree" false rfl (by decide) (fun h => by cases h) (Nat.le_of_ble_eq_true rfl) rfl ?_
  intro w X
  obtain ⟨t0, t1, t2, t3, t4, t5, t6, t7, t8, t9, t10, t11, t12, t13, t14, t15, t16⟩ := ht
  obtain ⟨ed, s, hli, hel6⟩ := hJ.lst t4 t5
  have hsz := hli.2.2.1
  have hs9 : s < 2 ^ 31 := by have := hli.2.2.2.1; have := hli.2.2.2.2.1; omega
  obtain ⟨nb0, ns0, hnm, -⟩ := hJ.nm hnt (sp_e0 _)
  refine sp_null X (pc := 0) dX9_childOf_0 ?_
  refine sp_astore_n X (pc := 1) (lv' := [(3, false, va_rf none), (0, false, va_rf (some (A 5))), (1, false, va_rf (some f)), (2, false, va_rf (some nm))]) dX9_childOf_1 rfl (by decide) rfl ?_
  refine sp_iconst X (pc := 2) (v := 0) dX9_childOf_2 (by decide) ?_
  refine sp_istore X (pc := 3) (lv' := [(4, false, .int 0), (3, false, va_rf none), (0, false, va_rf (some (A 5))), (1, false, va_rf (some f)), (2, false, va_rf (some nm))]) dX9_childOf_3  (by decide) rfl ?_
  have loop5 : ∀ (dz : Nat) (i : Nat) (r : Option Nat), i ≤ s → (∀ b, r = some b → sp_kid G m A f b) → s - i = dz → w 0 0 m 5 [(0, false, va_rf (some (A 5))), (1, false, va_rf (some f)), (2, false, va_rf (some nm)), (3, false, va_rf r), (4, false, .int (nI i))] [] := by
    intro dz
    induction dz using Nat.strongRecOn with
    | ind dz ih =>
      intro i r hi0 hr hdz
      refine sp_iload X (pc := 5) (x := nI i) dX9_childOf_5 rfl ?_
      refine sp_aload_n X (pc := 7) (r := some (A 5)) dX9_childOf_7 rfl rfl ?_
      refine sp_getfield X (pc := 8) (c := 10) (i := 1) (t := 2) (a := (A 5)) (v := va_rf (some (A 9))) rfl (by first | assumption | omega) (by decide) rfl (congrArg va_rf t3) fl_Tree_16 dX9_childOf_8 ?_
      refine sp_callV X (pc := 11) (mc := 0) (ms := 0) (b := (A 9)) (c := 0) (r := (some (A 9))) (As := []) (rest := [.int (nI i)]) (c_List_size l G _ t4) ok_List_size rfl (by first | assumption | omega) (by decide) rfl lk_Tree_72 rfl rfl (by simp [sp_cat_rf, sp_cat_i, sp_cat_l]) (Nat.le_of_ble_eq_true rfl) (Nat.le_of_ble_eq_true rfl) (Nat.zero_le _) (Nat.zero_le _) dX9_childOf_11 (sp_kI fun v11 m11 hp11 => ?_)
      obtain ⟨hp11v, hp11⟩ := hp11; replace hp11 := (hp11).symm; subst hp11; replace hp11v := (hp11v).symm; subst hp11v
      rw [hsz]
      refine sp_icmp_ge X (pc := 14) (tgt := 101) dX9_childOf_14 (by decide) (fun hb14 => ?_) (fun hb14 => ?_)
      · have hi : s ≤ i := sp_nge hb14 (by omega) (by omega)
        refine sp_aload_n X (pc := 101) (r := r) dX9_childOf_101 rfl rfl ?_
        refine sp_areturn X (pc := 102) (by first | exact Or.inl ⟨_, rfl⟩ | exact Or.inr ⟨_, rfl⟩) dX9_childOf_102 ⟨_, rfl, ?_⟩
        exact ⟨hr, rfl⟩
      · have hi : i < s := sp_nlt hb14 (by omega)
        obtain ⟨b, hb, hbt⟩ := hel6 i hi
        obtain ⟨hd1, ⟨nb, hnb, hnbt⟩, hd3, hd4⟩ := hJ.2.2.2.2.1 b hbt (sp_e0 _)
        obtain ⟨nbb, nbs, hnmb, -⟩ := hJ.nm hnbt (sp_e0 _)
        refine sp_aload_n X (pc := 17) (r := some (A 5)) dX9_childOf_17 rfl rfl ?_
        refine sp_getfield X (pc := 18) (c := 10) (i := 1) (t := 2) (a := (A 5)) (v := va_rf (some (A 9))) rfl (by first | assumption | omega) (by decide) rfl (congrArg va_rf t3) fl_Tree_16 dX9_childOf_18 ?_
        refine sp_iload X (pc := 21) (x := nI i) dX9_childOf_21 rfl ?_
        refine sp_callV X (pc := 23) (mc := 0) (ms := 0) (b := (A 9)) (c := 0) (r := (some (A 9))) (As := [.int (nI i)]) (rest := []) (c_List_get l G _ hli hi) ok_List_get rfl (by first | assumption | omega) (by decide) rfl lk_Tree_76 rfl rfl (Nat.zero_le _) (Nat.le_of_ble_eq_true rfl) (Nat.le_of_ble_eq_true rfl) (Nat.zero_le _) (Nat.zero_le _) dX9_childOf_23 (sp_kR fun v23 m23 hp23 => ?_)
        obtain ⟨hp23v, hp23⟩ := hp23; replace hp23 := (hp23).symm; subst hp23; replace hp23v := (hp23v).symm; subst hp23v
        rw [hb]
        refine sp_checkcast X (pc := 26) (a := b) (c := 5) rfl (by first | assumption | omega) (by decide) cl_Tree_30 dX9_childOf_26 ?_
        refine sp_astore X (pc := 29) (lv' := [(5, false, va_rf (some b)), (0, false, va_rf (some (A 5))), (1, false, va_rf (some f)), (2, false, va_rf (some nm)), (3, false, va_rf r), (4, false, .int (nI i))]) dX9_childOf_29  (by decide) rfl ?_
        refine sp_aload X (pc := 31) (r := some b) dX9_childOf_31 rfl ?_
        refine sp_getfield X (pc := 33) (c := 5) (i := 7) (t := 0) (a := b) (v := .int (m.fI 327 b)) rfl (by first | assumption | omega) (by decide) rfl rfl fl_Tree_80 dX9_childOf_33 ?_
        refine sp_if_ne X (pc := 36) (tgt := 95) dX9_childOf_36 (by decide) (fun hb36 => ?_) (fun hb36 => ?_)
        · refine sp_iinc X (pc := 95) (v := nI (i + 1)) (lv' := [(4, false, .int (nI (i + 1))), (5, false, va_rf (some b)), (0, false, va_rf (some (A 5))), (1, false, va_rf (some f)), (2, false, va_rf (some nm)), (3, false, va_rf r)]) dX9_childOf_95 rfl (nI_1 i) (by decide) rfl ?_
          refine sp_goto X (pc := 98) (tgt := 5) dX9_childOf_98 (by decide) ?_
          refine sp_pick X [2, 3, 4, 5, 0] (lv' := [(0, false, va_rf (some (A 5))), (1, false, va_rf (some f)), (2, false, va_rf (some nm)), (3, false, va_rf r), (4, false, .int (nI (i + 1)))]) rfl ?_
          first
            | exact ih (s - (i + 1)) (by omega) (i + 1) r (by omega) hr rfl
            | exact ih (s - (i + 1)) (by omega) (i + 1) (some b) (by omega) (fun b2 h2 => by cases h2; exact ⟨hbt, hb36, hb45, ed, s, i, hli, hi, hb⟩) rfl
        · refine sp_aload X (pc := 39) (r := some b) dX9_childOf_39 rfl ?_
          refine sp_callV X (pc := 41) (mc := 0) (ms := 0) (b := b) (c := 5) (r := some b) (As := []) (rest := []) (c_Node_up l G _ hbt) ok_Node_up rfl (by first | assumption | omega) (by decide) rfl lk_Tree_84 rfl rfl (Nat.zero_le _) (Nat.le_of_ble_eq_true rfl) (Nat.le_of_ble_eq_true rfl) (Nat.zero_le _) (Nat.zero_le _) dX9_childOf_41 (sp_kR fun v41 m41 hp41 => ?_)
          obtain ⟨hp41v, hp41⟩ := hp41; replace hp41 := (hp41).symm; subst hp41; replace hp41v := (hp41v).symm; subst hp41v
          refine sp_aload_n X (pc := 44) (r := some f) dX9_childOf_44 rfl rfl ?_
          refine sp_acmp_eq X (pc := 45) (tgt := 51) dX9_childOf_45 (by decide) (fun hb45 => ?_) (fun hb45 => ?_)
          · refine sp_aload X (pc := 51) (r := some b) dX9_childOf_51 rfl ?_
            refine sp_getfield X (pc := 53) (c := 5) (i := 2) (t := 2) (a := b) (v := va_rf (some nb)) rfl (by first | assumption | omega) (by decide) rfl (congrArg va_rf hnb) fl_Tree_88 dX9_childOf_53 ?_
            refine sp_aload_n X (pc := 56) (r := some nm) dX9_childOf_56 rfl rfl ?_
            refine sp_callV X (pc := 57) (mc := 0) (ms := 0) (b := nb) (c := 4) (r := (some nb)) (As := [va_rf (some nm)]) (rest := []) (c_Name_isSameAs l G _ hnmb hnm) ok_Name_isSameAs rfl hnmb.1 (by decide) rfl lk_Tree_92 rfl rfl (Nat.zero_le _) (Nat.le_of_ble_eq_true rfl) (Nat.le_of_ble_eq_true rfl) (Nat.zero_le _) (Nat.zero_le _) dX9_childOf_57 (sp_kI fun v57 m57 hp57 => ?_)
            obtain ⟨hp57, hp57m⟩ := hp57; replace hp57m := (hp57m).symm; subst hp57m
            refine sp_if_eq X (pc := 60) (tgt := 66) dX9_childOf_60 (by decide) (fun hb60 => ?_) (fun hb60 => ?_)
            · refine sp_aload_n X (pc := 66) (r := r) dX9_childOf_66 rfl rfl ?_
              refine sp_ifnonnull X (pc := 67) (tgt := 95) dX9_childOf_67 (by decide) (fun ra67 hb67 => ?_) (fun hb67 => ?_)
              · refine sp_iinc X (pc := 95) (v := nI (i + 1)) (lv' := [(4, false, .int (nI (i + 1))), (5, false, va_rf (some b)), (0, false, va_rf (some (A 5))), (1, false, va_rf (some f)), (2, false, va_rf (some nm)), (3, false, va_rf r)]) dX9_childOf_95 rfl (nI_1 i) (by decide) rfl ?_
                refine sp_goto X (pc := 98) (tgt := 5) dX9_childOf_98 (by decide) ?_
                refine sp_pick X [2, 3, 4, 5, 0] (lv' := [(0, false, va_rf (some (A 5))), (1, false, va_rf (some f)), (2, false, va_rf (some nm)), (3, false, va_rf r), (4, false, .int (nI (i + 1)))]) rfl ?_
                first
                  | exact ih (s - (i + 1)) (by omega) (i + 1) r (by omega) hr rfl
                  | exact ih (s - (i + 1)) (by omega) (i + 1) (some b) (by omega) (fun b2 h2 => by cases h2; exact ⟨hbt, hb36, hb45, ed, s, i, hli, hi, hb⟩) rfl
              · refine sp_aload_n X (pc := 70) (r := some (A 5)) dX9_childOf_70 rfl rfl ?_
                refine sp_getfield X (pc := 71) (c := 10) (i := 0) (t := 2) (a := (A 5)) (v := va_rf (some (A 0))) rfl (by first | assumption | omega) (by decide) rfl (congrArg va_rf t1) fl_Tree_7 dX9_childOf_71 ?_
                refine sp_getfield X (pc := 74) (c := 8) (i := 1) (t := 0) (a := (A 0)) (v := .int (m.fI 513 (A 0))) rfl (by first | assumption | omega) (by decide) rfl rfl fl_Tree_96 dX9_childOf_74 ?_
                refine sp_if_eq X (pc := 77) (tgt := 95) dX9_childOf_77 (by decide) (fun hb77 => ?_) (fun hb77 => ?_)
                · refine sp_iinc X (pc := 95) (v := nI (i + 1)) (lv' := [(4, false, .int (nI (i + 1))), (5, false, va_rf (some b)), (0, false, va_rf (some (A 5))), (1, false, va_rf (some f)), (2, false, va_rf (some nm)), (3, false, va_rf r)]) dX9_childOf_95 rfl (nI_1 i) (by decide) rfl ?_
                  refine sp_goto X (pc := 98) (tgt := 5) dX9_childOf_98 (by decide) ?_
                  refine sp_pick X [2, 3, 4, 5, 0] (lv' := [(0, false, va_rf (some (A 5))), (1, false, va_rf (some f)), (2, false, va_rf (some nm)), (3, false, va_rf r), (4, false, .int (nI (i + 1)))]) rfl ?_
                  first
                    | exact ih (s - (i + 1)) (by omega) (i + 1) r (by omega) hr rfl
                    | exact ih (s - (i + 1)) (by omega) (i + 1) (some b) (by omega) (fun b2 h2 => by cases h2; exact ⟨hbt, hb36, hb45, ed, s, i, hli, hi, hb⟩) rfl
                · refine sp_aload X (pc := 80) (r := some b) dX9_childOf_80 rfl ?_
                  refine sp_getfield X (pc := 82) (c := 5) (i := 2) (t := 2) (a := b) (v := va_rf (some nb)) rfl (by first | assumption | omega) (by decide) rfl (congrArg va_rf hnb) fl_Tree_88 dX9_childOf_82 ?_
                  refine sp_aload_n X (pc := 85) (r := some nm) dX9_childOf_85 rfl rfl ?_
                  refine sp_callV X (pc := 86) (mc := 0) (ms := 0) (b := nb) (c := 4) (r := (some nb)) (As := [va_rf (some nm)]) (rest := []) (c_Name_isAlike l G _ hnmb hnm) ok_Name_isAlike rfl hnmb.1 (by decide) rfl lk_Tree_101 rfl rfl (Nat.zero_le _) (Nat.le_of_ble_eq_true rfl) (Nat.le_of_ble_eq_true rfl) (Nat.zero_le _) (Nat.zero_le _) dX9_childOf_86 (sp_kI fun v86 m86 hp86 => ?_)
                  obtain ⟨hp86, hp86m⟩ := hp86; replace hp86m := (hp86m).symm; subst hp86m
                  refine sp_if_eq X (pc := 89) (tgt := 95) dX9_childOf_89 (by decide) (fun hb89 => ?_) (fun hb89 => ?_)
                  · refine sp_iinc X (pc := 95) (v := nI (i + 1)) (lv' := [(4, false, .int (nI (i + 1))), (5, false, va_rf (some b)), (0, false, va_rf (some (A 5))), (1, false, va_rf (some f)), (2, false, va_rf (some nm)), (3, false, va_rf r)]) dX9_childOf_95 rfl (nI_1 i) (by decide) rfl ?_
                    refine sp_goto X (pc := 98) (tgt := 5) dX9_childOf_98 (by decide) ?_
                    refine sp_pick X [2, 3, 4, 5, 0] (lv' := [(0, false, va_rf (some (A 5))), (1, false, va_rf (some f)), (2, false, va_rf (some nm)), (3, false, va_rf r), (4, false, .int (nI (i + 1)))]) rfl ?_
                    first
                      | exact ih (s - (i + 1)) (by omega) (i + 1) r (by omega) hr rfl
                      | exact ih (s - (i + 1)) (by omega) (i + 1) (some b) (by omega) (fun b2 h2 => by cases h2; exact ⟨hbt, hb36, hb45, ed, s, i, hli, hi, hb⟩) rfl
                  · refine sp_aload X (pc := 92) (r := some b) dX9_childOf_92 rfl ?_
                    refine sp_astore_n X (pc := 94) (lv' := [(3, false, va_rf (some b)), (5, false, va_rf (some b)), (0, false, va_rf (some (A 5))), (1, false, va_rf (some f)), (2, false, va_rf (some nm)), (4, false, .int (nI i))]) dX9_childOf_94 rfl (by decide) rfl ?_
                    refine sp_iinc X (pc := 95) (v := nI (i + 1)) (lv' := [(4, false, .int (nI (i + 1))), (3, false, va_rf (some b)), (5, false, va_rf (some b)), (0, false, va_rf (some (A 5))), (1, false, va_rf (some f)), (2, false, va_rf (some nm))]) dX9_childOf_95 rfl (nI_1 i) (by decide) rfl ?_
                    refine sp_goto X (pc := 98) (tgt := 5) dX9_childOf_98 (by decide) ?_
                    refine sp_pick X [3, 4, 5, 1, 0] (lv' := [(0, false, va_rf (some (A 5))), (1, false, va_rf (some f)), (2, false, va_rf (some nm)), (3, false, va_rf (some b)), (4, false, .int (nI (i + 1)))]) rfl ?_
                    first
                      | exact ih (s - (i + 1)) (by omega) (i + 1) r (by omega) hr rfl
                      | exact ih (s - (i + 1)) (by omega) (i + 1) (some b) (by omega) (fun b2 h2 => by cases h2; exact ⟨hbt, hb36, hb45, ed, s, i, hli, hi, hb⟩) rfl
            · refine sp_aload X (pc := 63) (r := some b) dX9_childOf_63 rfl ?_
              refine sp_areturn X (pc := 65) (by first | exact Or.inl ⟨_, rfl⟩ | exact Or.inr ⟨_, rfl⟩) dX9_childOf_65 ⟨_, rfl, ?_⟩
              exact ⟨fun b2 h2 => by cases h2; exact ⟨hbt, hb36, hb45, ed, s, i, hli, hi, hb⟩, rfl⟩
          · refine sp_goto X (pc := 48) (tgt := 95) dX9_childOf_48 (by decide) ?_
            refine sp_iinc X (pc := 95) (v := nI (i + 1)) (lv' := [(4, false, .int (nI (i + 1))), (5, false, va_rf (some b)), (0, false, va_rf (some (A 5))), (1, false, va_rf (some f)), (2, false, va_rf (some nm)), (3, false, va_rf r)]) dX9_childOf_95 rfl (nI_1 i) (by decide) rfl ?_
            refine sp_goto X (pc := 98) (tgt := 5) dX9_childOf_98 (by decide) ?_
            refine sp_pick X [2, 3, 4, 5, 0] (lv' := [(0, false, va_rf (some (A 5))), (1, false, va_rf (some f)), (2, false, va_rf (some nm)), (3, false, va_rf r), (4, false, .int (nI (i + 1)))]) rfl ?_
            first
              | exact ih (s - (i + 1)) (by omega) (i + 1) r (by omega) hr rfl
              | exact ih (s - (i + 1)) (by omega) (i + 1) (some b) (by omega) (fun b2 h2 => by cases h2; exact ⟨hbt, hb36, hb45, ed, s, i, hli, hi, hb⟩) rfl
  refine sp_pick X [2, 3, 4, 1, 0] (lv' := [(0, false, va_rf (some (A 5))), (1, false, va_rf (some f)), (2, false, va_rf (some nm)), (3, false, va_rf none), (4, false, .int 0)]) rfl ?_
  exact loop5 _ 0 none (Nat.zero_le _) (fun b h => by cases h) rfl
set_option maxRecDepth 20000 in
theorem c_Tree_isOutside (l : Launch) (G : sp_G) (m : sp_M) {A : Nat → Nat} {f : Nat} {P : Nat → Prop} (hJ : sp_J G P sp_E0 m) (ht : sp_tr m A) (hf : m.ty f = 6) : sp_C l G M_Tree_isOutside 0 0 [.ref (A 5), .ref f] m (sp_oI fun v m' => sp_bo v (¬ ∃ q, sp_ch m q (some f) = some (A 12)) ∧ m' = m) := by
  refine sp_enter (lv0 := [(0, false, va_rf (some (A 5))), (1, false, va_rf (some f))]) "SafePaths$Tree" false rfl (by decide) (fun h => by cases h) (Nat.le_of_ble_eq_true rfl) rfl ?_
  intro w X
  obtain ⟨t0, t1, t2, t3, t4, t5, t6, t7, t8, t9, t10, t11, t12, t13, t14, t15, t16⟩ := ht
  refine sp_aload_n X (pc := 0) (r := some f) dX9_isOutside_0 rfl rfl ?_
  refine sp_astore_n X (pc := 1) (lv' := [(2, false, va_rf (some f)), (0, false, va_rf (some (A 5))), (1, false, va_rf (some f))]) dX9_isOutside_1 rfl (by decide) rfl ?_
  have loop2 : ∀ (dz : Nat) (r : Option Nat) (q : Nat), (∀ a, r = some a → m.ty a = 6) → sp_ch m q (some f) = r → (∀ k, k < q → ¬ sp_ch m k (some f) = some (A 12)) → (r.map (fun x => x + 1)).getD 0 = dz → w 0 0 m 2 [(0, false, va_rf (some (A 5))), (2, false, va_rf r)] [] := by
    intro dz
    induction dz using Nat.strongRecOn with
    | ind dz ih =>
      intro r q hr hq hno hdz
      refine sp_aload_n X (pc := 2) (r := r) dX9_isOutside_2 rfl rfl ?_
      refine sp_ifnull X (pc := 3) (tgt := 24) dX9_isOutside_3 (by decide) (fun hb3 => ?_) (fun ra3 hb3 => ?_)
      · refine sp_iconst X (pc := 24) (v := 1) dX9_isOutside_24 (by decide) ?_
        refine sp_ireturn X (pc := 25) dX9_isOutside_25 rfl ⟨_, rfl, ?_⟩
        refine ⟨sp_bo.t ?_, rfl⟩
        rintro ⟨k, hk⟩
        rcases Nat.lt_or_ge k q with z | z
        · exact hno k z hk
        · rw [sp_ch_none m (some f) q (hq.trans hb3) k z] at hk
          cases hk
      · have hrt := hr _ hb3
        refine sp_aload_n X (pc := 6) (r := r) dX9_isOutside_6 rfl rfl ?_
        refine sp_aload_n X (pc := 7) (r := some (A 5)) dX9_isOutside_7 rfl rfl ?_
        refine sp_getfield X (pc := 8) (c := 10) (i := 4) (t := 2) (a := (A 5)) (v := va_rf (some (A 12))) rfl (by first | assumption | omega) (by decide) rfl (congrArg va_rf t11) fl_Tree_53 dX9_isOutside_8 ?_
        refine sp_acmp_ne X (pc := 11) (tgt := 16) dX9_isOutside_11 (by decide) (fun hb11 => ?_) (fun hb11 => ?_)
        · refine sp_aload_n X (pc := 16) (r := r) dX9_isOutside_16 rfl rfl ?_
          refine sp_getfield X (pc := 17) (c := 5) (i := 1) (t := 2) (a := ra3) (v := va_rf (m.fR 321 ra3)) hb3 hrt (by decide) rfl rfl fl_Tree_121 dX9_isOutside_17 ?_
          refine sp_astore_n X (pc := 20) (lv' := [(2, false, va_rf (m.fR 321 ra3)), (0, false, va_rf (some (A 5)))]) dX9_isOutside_20 rfl (by decide) rfl ?_
          refine sp_goto X (pc := 21) (tgt := 2) dX9_isOutside_21 (by decide) ?_
          refine sp_pick X [1, 0] (lv' := [(0, false, va_rf (some (A 5))), (2, false, va_rf (m.fR 321 ra3))]) rfl ?_
          have hd9 := (hJ.2.2.2.2.1 _ hrt (sp_e0 _)).1
          subst hb3
          refine ih _ ?_ (m.fR 321 ra3) (q + 1) (fun a h => (hd9 a h).1) ?_ ?_ rfl
          · rw [← hdz]
            cases hf9 : m.fR 321 ra3 with
            | none => exact Nat.succ_pos _
            | some a9 => have := (hd9 a9 hf9).2; show a9 + 1 < ra3 + 1; omega
          · show (sp_ch m q (some f)).bind _ = _
            rw [hq]
            rfl
          · intro k hk
            rcases Nat.lt_or_ge k q with z | z
            · exact hno k z
            · rw [show k = q by omega, hq]
              exact hb11
        · refine sp_iconst X (pc := 14) (v := 0) dX9_isOutside_14 (by decide) ?_
          refine sp_ireturn X (pc := 15) dX9_isOutside_15 rfl ⟨_, rfl, ?_⟩
          exact ⟨sp_bo.f (fun z => z ⟨q, hq.trans hb11⟩), rfl⟩
  refine sp_pick X [1, 0] (lv' := [(0, false, va_rf (some (A 5))), (2, false, va_rf (some f))]) rfl ?_
  exact loop2 _ (some f) 0 (fun a h => by cases h; exact hf) rfl (fun k h => absurd h (by omega)) rfl
set_option maxRecDepth 20000 in
theorem c_Tree_reach (l : Launch) (G : sp_G) (m : sp_M) {P : Nat → Prop} {A : Nat → Nat} (hJ : sp_J G P sp_E0 m) (ht : sp_tr m A) {p L ed0 s0 : Nat} {fl : Int32} (hp : sp_pt G m p L ed0 s0) : sp_C l G M_Tree_reach 0 0 [.ref (A 5), .ref p, .int fl] m (sp_oR fun v m' => (∀ b, v = some b → m.ty b = 6) ∧ m' = m) := by
  refine sp_enter (lv0 := [(0, false, va_rf (some (A 5))), (1, false, va_rf (some p)), (2, false, .int fl)]) "SafePaths$Tree" false rfl (by decide) (fun h => by cases h) (Nat.le_of_ble_eq_true rfl) rfl ?_
  intro w X
  obtain ⟨t0, t1, t2, t3, t4, t5, t6, t7, t8, t9, t10, t11, t12, t13, t14, t15, t16⟩ := ht
  obtain ⟨ed, s, hli, hel6⟩ := hJ.lst t4 t5
  have hsz := hli.2.2.1
  have hs9 : s < 2 ^ 31 := by have := hli.2.2.2.1; have := hli.2.2.2.2.1; omega
  have htr : sp_tr m A := ⟨t0, t1, t2, t3, t4, t5, t6, t7, t8, t9, t10, t11, t12, t13, t14, t15, t16⟩
  have hpt := hp.1
  have hs0 : s0 < 2 ^ 31 := by have := hp.2.2.2.2.2.1; have := hp.2.2.2.2.2.2; omega
  refine sp_aload_n X (pc := 0) (r := some (A 5)) dX9_reach_0 rfl rfl ?_
  refine sp_getfield X (pc := 1) (c := 10) (i := 4) (t := 2) (a := (A 5)) (v := va_rf (some (A 12))) rfl (by first | assumption | omega) (by decide) rfl (congrArg va_rf t11) fl_Tree_53 dX9_reach_1 ?_
  refine sp_astore_n X (pc := 4) (lv' := [(3, false, va_rf (some (A 12))), (0, false, va_rf (some (A 5))), (1, false, va_rf (some p)), (2, false, .int fl)]) dX9_reach_4 rfl (by decide) rfl ?_
  refine sp_iconst X (pc := 5) (v := 0) dX9_reach_5 (by decide) ?_
  refine sp_istore X (pc := 6) (lv' := [(4, false, .int 0), (3, false, va_rf (some (A 12))), (0, false, va_rf (some (A 5))), (1, false, va_rf (some p)), (2, false, .int fl)]) dX9_reach_6  (by decide) rfl ?_
  have loop8 : ∀ (dz : Nat) (i a : Nat), i ≤ s0 → m.ty a = 6 → s0 - i = dz → w 0 0 m 8 [(0, false, va_rf (some (A 5))), (1, false, va_rf (some p)), (2, false, .int fl), (3, false, va_rf (some a)), (4, false, .int (nI i))] [] := by
    intro dz
    induction dz using Nat.strongRecOn with
    | ind dz ih =>
      intro i a hi0 hat hdz
      refine sp_iload X (pc := 8) (x := nI i) dX9_reach_8 rfl ?_
      refine sp_aload_n X (pc := 10) (r := some p) dX9_reach_10 rfl rfl ?_
      refine sp_callV X (pc := 11) (mc := 0) (ms := 0) (b := p) (c := 7) (r := some p) (As := []) (rest := [.int (nI i)]) (c_Parted_count l G _ hp) ok_Parted_count rfl (by first | assumption | omega) (by decide) rfl lk_Tree_104 rfl rfl (by simp [sp_cat_rf, sp_cat_i, sp_cat_l]) (Nat.le_of_ble_eq_true rfl) (Nat.le_of_ble_eq_true rfl) (Nat.zero_le _) (Nat.zero_le _) dX9_reach_11 (sp_kI fun v11 m11 hp11 => ?_)
      obtain ⟨hp11v, hp11⟩ := hp11; replace hp11 := (hp11).symm; subst hp11; replace hp11v := (hp11v).symm; subst hp11v
      refine sp_icmp_ge X (pc := 14) (tgt := 76) dX9_reach_14 (by decide) (fun hb14 => ?_) (fun hb14 => ?_)
      · have hi : s0 ≤ i := sp_nge hb14 (by omega) (by omega)
        refine sp_aload_n X (pc := 76) (r := some a) dX9_reach_76 rfl rfl ?_
        refine sp_areturn X (pc := 77) (by first | exact Or.inl ⟨_, rfl⟩ | exact Or.inr ⟨_, rfl⟩) dX9_reach_77 ⟨_, rfl, ?_⟩
        exact ⟨fun b h => (by cases h; exact hat), rfl⟩
      · have hi : i < s0 := sp_nlt hb14 (by omega)
        refine sp_aload_n X (pc := 17) (r := some a) dX9_reach_17 rfl rfl ?_
        refine sp_callV X (pc := 18) (mc := 0) (ms := 0) (b := a) (c := 5) (r := some a) (As := []) (rest := []) (c_Node_isFolder l G _ hat) ok_Node_isFolder rfl hat (by decide) rfl lk_Tree_109 rfl rfl (Nat.zero_le _) (Nat.le_of_ble_eq_true rfl) (Nat.le_of_ble_eq_true rfl) (Nat.zero_le _) (Nat.zero_le _) dX9_reach_18 (sp_kI fun v18 m18 hp18 => ?_)
        obtain ⟨hp18v, hp18⟩ := hp18; replace hp18 := (hp18).symm; subst hp18; replace hp18v := (hp18v).symm; subst hp18v
        refine sp_if_ne X (pc := 21) (tgt := 26) dX9_reach_21 (by decide) (fun hb21 => ?_) (fun hb21 => ?_)
        · refine sp_aload_n X (pc := 26) (r := some (A 5)) dX9_reach_26 rfl rfl ?_
          refine sp_aload_n X (pc := 27) (r := some a) dX9_reach_27 rfl rfl ?_
          refine sp_aload_n X (pc := 28) (r := some p) dX9_reach_28 rfl rfl ?_
          refine sp_iload X (pc := 29) (x := nI i) dX9_reach_29 rfl ?_
          refine sp_callV X (pc := 31) (mc := 0) (ms := 0) (b := p) (c := 7) (r := some p) (As := [.int (nI i)]) (rest := [va_rf (some a), va_rf (some (A 5))]) (c_Parted_at l G _ hp) ok_Parted_at rfl (by first | assumption | omega) (by decide) rfl lk_Tree_113 rfl rfl (by simp [sp_cat_rf, sp_cat_i, sp_cat_l]) (Nat.le_of_ble_eq_true rfl) (Nat.le_of_ble_eq_true rfl) (Nat.zero_le _) (Nat.zero_le _) dX9_reach_31 (sp_kR fun v31 m31 hp31 => ?_)
          obtain ⟨hp31, hp31m⟩ := hp31; replace hp31m := (hp31m).symm; subst hp31m
          obtain ⟨nm, rfl, hnmt, -⟩ := hp31
          refine sp_callV X (pc := 34) (mc := 0) (ms := 0) (b := (A 5)) (c := 10) (r := some (A 5)) (As := [va_rf (some a), va_rf (some nm)]) (rest := []) (c_Tree_childOf l G _ hJ htr hat hnmt) ok_Tree_childOf rfl (by first | assumption | omega) (by decide) rfl lk_Tree_117 rfl rfl (Nat.zero_le _) (Nat.le_of_ble_eq_true rfl) (Nat.le_of_ble_eq_true rfl) (Nat.zero_le _) (Nat.zero_le _) dX9_reach_34 (sp_kR fun v34 m34 hp34 => ?_)
          obtain ⟨hp34, hp34m⟩ := hp34; replace hp34m := (hp34m).symm; subst hp34m
          refine sp_astore X (pc := 37) (lv' := [(5, false, va_rf v34), (0, false, va_rf (some (A 5))), (1, false, va_rf (some p)), (2, false, .int fl), (3, false, va_rf (some a)), (4, false, .int (nI i))]) dX9_reach_37  (by decide) rfl ?_
          refine sp_aload X (pc := 39) (r := v34) dX9_reach_39 rfl ?_
          refine sp_ifnull X (pc := 41) (tgt := 65) dX9_reach_41 (by decide) (fun hb41 => ?_) (fun ra41 hb41 => ?_)
          · refine sp_null X (pc := 65) dX9_reach_65 ?_
            refine sp_areturn X (pc := 66) (by first | exact Or.inl ⟨_, rfl⟩ | exact Or.inr ⟨_, rfl⟩) dX9_reach_66 ⟨_, rfl, ?_⟩
            exact ⟨fun b h => (by cases h), rfl⟩
          · have hkt := (hp34 _ hb41).1
            obtain ⟨hd1, ⟨nb, hnb, hnbt⟩, hd3, hd4⟩ := hJ.2.2.2.2.1 _ hkt (sp_e0 _)
            refine sp_iload_n X (pc := 44) (x := fl) dX9_reach_44 rfl rfl ?_
            refine sp_if_eq X (pc := 45) (tgt := 67) dX9_reach_45 (by decide) (fun hb45 => ?_) (fun hb45 => ?_)
            · refine sp_aload X (pc := 67) (r := v34) dX9_reach_67 rfl ?_
              refine sp_astore_n X (pc := 69) (lv' := [(3, false, va_rf v34), (5, false, va_rf v34), (0, false, va_rf (some (A 5))), (1, false, va_rf (some p)), (2, false, .int fl), (4, false, .int (nI i))]) dX9_reach_69 rfl (by decide) rfl ?_
              refine sp_iinc X (pc := 70) (v := nI (i + 1)) (lv' := [(4, false, .int (nI (i + 1))), (3, false, va_rf v34), (5, false, va_rf v34), (0, false, va_rf (some (A 5))), (1, false, va_rf (some p)), (2, false, .int fl)]) dX9_reach_70 rfl (nI_1 i) (by decide) rfl ?_
              refine sp_goto X (pc := 73) (tgt := 8) dX9_reach_73 (by decide) ?_
              refine sp_pick X [3, 4, 5, 1, 0] (lv' := [(0, false, va_rf (some (A 5))), (1, false, va_rf (some p)), (2, false, .int fl), (3, false, va_rf v34), (4, false, .int (nI (i + 1)))]) rfl ?_
              subst hb41
              exact ih (s0 - (i + 1)) (by omega) (i + 1) _ (by omega) hkt rfl
            · refine sp_aload X (pc := 48) (r := v34) dX9_reach_48 rfl ?_
              refine sp_getfield X (pc := 50) (c := 5) (i := 2) (t := 2) (a := ra41) (v := va_rf (some nb)) hb41 (by first | assumption | omega) (by decide) rfl (congrArg va_rf hnb) fl_Tree_88 dX9_reach_50 ?_
              refine sp_aload_n X (pc := 53) (r := some p) dX9_reach_53 rfl rfl ?_
              refine sp_iload X (pc := 54) (x := nI i) dX9_reach_54 rfl ?_
              refine sp_callV X (pc := 56) (mc := 0) (ms := 0) (b := p) (c := 7) (r := some p) (As := [.int (nI i)]) (rest := [va_rf (some nb)]) (c_Parted_at l G _ hp) ok_Parted_at rfl (by first | assumption | omega) (by decide) rfl lk_Tree_113 rfl rfl (by simp [sp_cat_rf, sp_cat_i, sp_cat_l]) (Nat.le_of_ble_eq_true rfl) (Nat.le_of_ble_eq_true rfl) (Nat.zero_le _) (Nat.zero_le _) dX9_reach_56 (sp_kR fun v56 m56 hp56 => ?_)
              obtain ⟨hp56, hp56m⟩ := hp56; replace hp56m := (hp56m).symm; subst hp56m
              obtain ⟨nm2, rfl, hnmt2, -⟩ := hp56
              obtain ⟨nbb, nbs, hnmb, -⟩ := hJ.nm hnbt (sp_e0 _)
              obtain ⟨nm2b, nm2s, hnm2, -⟩ := hJ.nm hnmt2 (sp_e0 _)
              refine sp_callV X (pc := 59) (mc := 0) (ms := 0) (b := nb) (c := 4) (r := (some nb)) (As := [va_rf (some nm2)]) (rest := []) (c_Name_isSameAs l G _ hnmb hnm2) ok_Name_isSameAs rfl hnmb.1 (by decide) rfl lk_Tree_92 rfl rfl (Nat.zero_le _) (Nat.le_of_ble_eq_true rfl) (Nat.le_of_ble_eq_true rfl) (Nat.zero_le _) (Nat.zero_le _) dX9_reach_59 (sp_kI fun v59 m59 hp59 => ?_)
              obtain ⟨hp59, hp59m⟩ := hp59; replace hp59m := (hp59m).symm; subst hp59m
              refine sp_if_ne X (pc := 62) (tgt := 67) dX9_reach_62 (by decide) (fun hb62 => ?_) (fun hb62 => ?_)
              · refine sp_aload X (pc := 67) (r := v34) dX9_reach_67 rfl ?_
                refine sp_astore_n X (pc := 69) (lv' := [(3, false, va_rf v34), (5, false, va_rf v34), (0, false, va_rf (some (A 5))), (1, false, va_rf (some p)), (2, false, .int fl), (4, false, .int (nI i))]) dX9_reach_69 rfl (by decide) rfl ?_
                refine sp_iinc X (pc := 70) (v := nI (i + 1)) (lv' := [(4, false, .int (nI (i + 1))), (3, false, va_rf v34), (5, false, va_rf v34), (0, false, va_rf (some (A 5))), (1, false, va_rf (some p)), (2, false, .int fl)]) dX9_reach_70 rfl (nI_1 i) (by decide) rfl ?_
                refine sp_goto X (pc := 73) (tgt := 8) dX9_reach_73 (by decide) ?_
                refine sp_pick X [3, 4, 5, 1, 0] (lv' := [(0, false, va_rf (some (A 5))), (1, false, va_rf (some p)), (2, false, .int fl), (3, false, va_rf v34), (4, false, .int (nI (i + 1)))]) rfl ?_
                subst hb41
                exact ih (s0 - (i + 1)) (by omega) (i + 1) _ (by omega) hkt rfl
              · refine sp_null X (pc := 65) dX9_reach_65 ?_
                refine sp_areturn X (pc := 66) (by first | exact Or.inl ⟨_, rfl⟩ | exact Or.inr ⟨_, rfl⟩) dX9_reach_66 ⟨_, rfl, ?_⟩
                exact ⟨fun b h => (by cases h), rfl⟩
        · refine sp_null X (pc := 24) dX9_reach_24 ?_
          refine sp_areturn X (pc := 25) (by first | exact Or.inl ⟨_, rfl⟩ | exact Or.inr ⟨_, rfl⟩) dX9_reach_25 ⟨_, rfl, ?_⟩
          exact ⟨fun b h => (by cases h), rfl⟩
  refine sp_pick X [2, 3, 4, 1, 0] (lv' := [(0, false, va_rf (some (A 5))), (1, false, va_rf (some p)), (2, false, .int fl), (3, false, va_rf (some (A 12))), (4, false, .int 0)]) rfl ?_
  exact loop8 _ 0 (A 12) (Nat.zero_le _) t12 rfl
set_option maxRecDepth 20000 in
theorem c_Tree_countShut (l : Launch) (G : sp_G) (m : sp_M) {P : Nat → Prop} {A : Nat → Nat} (hJ : sp_J G P sp_E0 m) (ht : sp_tr m A) : sp_C l G M_Tree_countShut 0 0 [.ref (A 5)] m (sp_oI fun v m' => True ∧ m' = m) := by
  refine sp_enter (lv0 := [(0, false, va_rf (some (A 5)))]) "SafePaths$Tree" false rfl (by decide) (fun h => by cases h) (Nat.le_of_ble_eq_true rfl) rfl ?_
  intro w X
  obtain ⟨t0, t1, t2, t3, t4, t5, t6, t7, t8, t9, t10, t11, t12, t13, t14, t15, t16⟩ := ht
  obtain ⟨ed, s, hli, hel6⟩ := hJ.lst t4 t5
  have hsz := hli.2.2.1
  have hs9 : s < 2 ^ 31 := by have := hli.2.2.2.1; have := hli.2.2.2.2.1; omega
  refine sp_iconst X (pc := 0) (v := 0) dX9_countShut_0 (by decide) ?_
  refine sp_istore_n X (pc := 1) (lv' := [(1, false, .int 0), (0, false, va_rf (some (A 5)))]) dX9_countShut_1 rfl (by decide) rfl ?_
  refine sp_iconst X (pc := 2) (v := 0) dX9_countShut_2 (by decide) ?_
  refine sp_istore_n X (pc := 3) (lv' := [(2, false, .int 0), (1, false, .int 0), (0, false, va_rf (some (A 5)))]) dX9_countShut_3 rfl (by decide) rfl ?_
  have loop4 : ∀ (dz : Nat) (i : Nat) (x : Int32), i ≤ s → s - i = dz → w 0 0 m 4 [(0, false, va_rf (some (A 5))), (1, false, .int x), (2, false, .int (nI i))] [] := by
    intro dz
    induction dz using Nat.strongRecOn with
    | ind dz ih =>
      intro i x hi0 hdz
      refine sp_iload_n X (pc := 4) (x := nI i) dX9_countShut_4 rfl rfl ?_
      refine sp_aload_n X (pc := 5) (r := some (A 5)) dX9_countShut_5 rfl rfl ?_
      refine sp_getfield X (pc := 6) (c := 10) (i := 1) (t := 2) (a := (A 5)) (v := va_rf (some (A 9))) rfl (by first | assumption | omega) (by decide) rfl (congrArg va_rf t3) fl_Tree_16 dX9_countShut_6 ?_
      refine sp_callV X (pc := 9) (mc := 0) (ms := 0) (b := (A 9)) (c := 0) (r := (some (A 9))) (As := []) (rest := [.int (nI i)]) (c_List_size l G _ t4) ok_List_size rfl (by first | assumption | omega) (by decide) rfl lk_Tree_72 rfl rfl (by simp [sp_cat_rf, sp_cat_i, sp_cat_l]) (Nat.le_of_ble_eq_true rfl) (Nat.le_of_ble_eq_true rfl) (Nat.zero_le _) (Nat.zero_le _) dX9_countShut_9 (sp_kI fun v9 m9 hp9 => ?_)
      obtain ⟨hp9v, hp9⟩ := hp9; replace hp9 := (hp9).symm; subst hp9; replace hp9v := (hp9v).symm; subst hp9v
      rw [hsz]
      refine sp_icmp_ge X (pc := 12) (tgt := 42) dX9_countShut_12 (by decide) (fun hb12 => ?_) (fun hb12 => ?_)
      · have hi : s ≤ i := sp_nge hb12 (by omega) (by omega)
        refine sp_iload_n X (pc := 42) (x := x) dX9_countShut_42 rfl rfl ?_
        refine sp_ireturn X (pc := 43) dX9_countShut_43 rfl ⟨_, rfl, ?_⟩
        exact ⟨trivial, rfl⟩
      · have hi : i < s := sp_nlt hb12 (by omega)
        obtain ⟨b, hb, hbt⟩ := hel6 i hi
        refine sp_aload_n X (pc := 15) (r := some (A 5)) dX9_countShut_15 rfl rfl ?_
        refine sp_getfield X (pc := 16) (c := 10) (i := 1) (t := 2) (a := (A 5)) (v := va_rf (some (A 9))) rfl (by first | assumption | omega) (by decide) rfl (congrArg va_rf t3) fl_Tree_16 dX9_countShut_16 ?_
        refine sp_iload_n X (pc := 19) (x := nI i) dX9_countShut_19 rfl rfl ?_
        refine sp_callV X (pc := 20) (mc := 0) (ms := 0) (b := (A 9)) (c := 0) (r := (some (A 9))) (As := [.int (nI i)]) (rest := []) (c_List_get l G _ hli hi) ok_List_get rfl (by first | assumption | omega) (by decide) rfl lk_Tree_76 rfl rfl (Nat.zero_le _) (Nat.le_of_ble_eq_true rfl) (Nat.le_of_ble_eq_true rfl) (Nat.zero_le _) (Nat.zero_le _) dX9_countShut_20 (sp_kR fun v20 m20 hp20 => ?_)
        obtain ⟨hp20v, hp20⟩ := hp20; replace hp20 := (hp20).symm; subst hp20; replace hp20v := (hp20v).symm; subst hp20v
        rw [hb]
        refine sp_checkcast X (pc := 23) (a := b) (c := 5) rfl (by first | assumption | omega) (by decide) cl_Tree_30 dX9_countShut_23 ?_
        refine sp_callV X (pc := 26) (mc := 0) (ms := 0) (b := b) (c := 5) (r := some b) (As := []) (rest := []) (c_Node_state l G _ hbt) ok_Node_state rfl hbt (by decide) rfl lk_Tree_124 rfl rfl (Nat.zero_le _) (Nat.le_of_ble_eq_true rfl) (Nat.le_of_ble_eq_true rfl) (Nat.zero_le _) (Nat.zero_le _) dX9_countShut_26 (sp_kI fun v26 m26 hp26 => ?_)
        obtain ⟨hp26, hp26m⟩ := hp26; replace hp26m := (hp26m).symm; subst hp26m
        refine sp_iconst X (pc := 29) (v := 1) dX9_countShut_29 (by decide) ?_
        refine sp_icmp_ne X (pc := 30) (tgt := 36) dX9_countShut_30 (by decide) (fun hb30 => ?_) (fun hb30 => ?_)
        · refine sp_iinc X (pc := 36) (v := nI (i + 1)) (lv' := [(2, false, .int (nI (i + 1))), (0, false, va_rf (some (A 5))), (1, false, .int x)]) dX9_countShut_36 rfl (nI_1 i) (by decide) rfl ?_
          refine sp_goto X (pc := 39) (tgt := 4) dX9_countShut_39 (by decide) ?_
          refine sp_pick X [1, 2, 0] (lv' := [(0, false, va_rf (some (A 5))), (1, false, .int x), (2, false, .int (nI (i + 1)))]) rfl ?_
          exact ih (s - (i + 1)) (by omega) (i + 1) _ (by omega) rfl
        · refine sp_iinc X (pc := 33) (v := (x + 1)) (lv' := [(1, false, .int (x + 1)), (0, false, va_rf (some (A 5))), (2, false, .int (nI i))]) dX9_countShut_33 rfl (rfl) (by decide) rfl ?_
          refine sp_iinc X (pc := 36) (v := nI (i + 1)) (lv' := [(2, false, .int (nI (i + 1))), (1, false, .int (x + 1)), (0, false, va_rf (some (A 5)))]) dX9_countShut_36 rfl (nI_1 i) (by decide) rfl ?_
          refine sp_goto X (pc := 39) (tgt := 4) dX9_countShut_39 (by decide) ?_
          refine sp_pick X [2, 1, 0] (lv' := [(0, false, va_rf (some (A 5))), (1, false, .int (x + 1)), (2, false, .int (nI (i + 1)))]) rfl ?_
          exact ih (s - (i + 1)) (by omega) (i + 1) _ (by omega) rfl
  refine sp_pick X [2, 1, 0] (lv' := [(0, false, va_rf (some (A 5))), (1, false, .int 0), (2, false, .int 0)]) rfl ?_
  exact loop4 _ 0 0 (Nat.zero_le _) rfl
set_option maxRecDepth 20000 in
theorem c_Tree_countIn (l : Launch) (G : sp_G) (m : sp_M) {P : Nat → Prop} {A : Nat → Nat} (hJ : sp_J G P sp_E0 m) (ht : sp_tr m A) {f : Nat} (hf : m.ty f = 6) : sp_C l G M_Tree_countIn 0 0 [.ref (A 5), .ref f] m (sp_oI fun v m' => True ∧ m' = m) := by
  refine sp_enter (lv0 := [(0, false, va_rf (some (A 5))), (1, false, va_rf (some f))]) "SafePaths$Tree" false rfl (by decide) (fun h => by cases h) (Nat.le_of_ble_eq_true rfl) rfl ?_
  intro w X
  obtain ⟨t0, t1, t2, t3, t4, t5, t6, t7, t8, t9, t10, t11, t12, t13, t14, t15, t16⟩ := ht
  obtain ⟨ed, s, hli, hel6⟩ := hJ.lst t4 t5
  have hsz := hli.2.2.1
  have hs9 : s < 2 ^ 31 := by have := hli.2.2.2.1; have := hli.2.2.2.2.1; omega
  refine sp_iconst X (pc := 0) (v := 0) dX9_countIn_0 (by decide) ?_
  refine sp_istore_n X (pc := 1) (lv' := [(2, false, .int 0), (0, false, va_rf (some (A 5))), (1, false, va_rf (some f))]) dX9_countIn_1 rfl (by decide) rfl ?_
  refine sp_iconst X (pc := 2) (v := 0) dX9_countIn_2 (by decide) ?_
  refine sp_istore_n X (pc := 3) (lv' := [(3, false, .int 0), (2, false, .int 0), (0, false, va_rf (some (A 5))), (1, false, va_rf (some f))]) dX9_countIn_3 rfl (by decide) rfl ?_
  have loop4 : ∀ (dz : Nat) (i : Nat) (x : Int32), i ≤ s → s - i = dz → w 0 0 m 4 [(0, false, va_rf (some (A 5))), (1, false, va_rf (some f)), (2, false, .int x), (3, false, .int (nI i))] [] := by
    intro dz
    induction dz using Nat.strongRecOn with
    | ind dz ih =>
      intro i x hi0 hdz
      refine sp_iload_n X (pc := 4) (x := nI i) dX9_countIn_4 rfl rfl ?_
      refine sp_aload_n X (pc := 5) (r := some (A 5)) dX9_countIn_5 rfl rfl ?_
      refine sp_getfield X (pc := 6) (c := 10) (i := 1) (t := 2) (a := (A 5)) (v := va_rf (some (A 9))) rfl (by first | assumption | omega) (by decide) rfl (congrArg va_rf t3) fl_Tree_16 dX9_countIn_6 ?_
      refine sp_callV X (pc := 9) (mc := 0) (ms := 0) (b := (A 9)) (c := 0) (r := (some (A 9))) (As := []) (rest := [.int (nI i)]) (c_List_size l G _ t4) ok_List_size rfl (by first | assumption | omega) (by decide) rfl lk_Tree_72 rfl rfl (by simp [sp_cat_rf, sp_cat_i, sp_cat_l]) (Nat.le_of_ble_eq_true rfl) (Nat.le_of_ble_eq_true rfl) (Nat.zero_le _) (Nat.zero_le _) dX9_countIn_9 (sp_kI fun v9 m9 hp9 => ?_)
      obtain ⟨hp9v, hp9⟩ := hp9; replace hp9 := (hp9).symm; subst hp9; replace hp9v := (hp9v).symm; subst hp9v
      rw [hsz]
      refine sp_icmp_ge X (pc := 12) (tgt := 54) dX9_countIn_12 (by decide) (fun hb12 => ?_) (fun hb12 => ?_)
      · have hi : s ≤ i := sp_nge hb12 (by omega) (by omega)
        refine sp_iload_n X (pc := 54) (x := x) dX9_countIn_54 rfl rfl ?_
        refine sp_ireturn X (pc := 55) dX9_countIn_55 rfl ⟨_, rfl, ?_⟩
        exact ⟨trivial, rfl⟩
      · have hi : i < s := sp_nlt hb12 (by omega)
        obtain ⟨b, hb, hbt⟩ := hel6 i hi
        refine sp_aload_n X (pc := 15) (r := some (A 5)) dX9_countIn_15 rfl rfl ?_
        refine sp_getfield X (pc := 16) (c := 10) (i := 1) (t := 2) (a := (A 5)) (v := va_rf (some (A 9))) rfl (by first | assumption | omega) (by decide) rfl (congrArg va_rf t3) fl_Tree_16 dX9_countIn_16 ?_
        refine sp_iload_n X (pc := 19) (x := nI i) dX9_countIn_19 rfl rfl ?_
        refine sp_callV X (pc := 20) (mc := 0) (ms := 0) (b := (A 9)) (c := 0) (r := (some (A 9))) (As := [.int (nI i)]) (rest := []) (c_List_get l G _ hli hi) ok_List_get rfl (by first | assumption | omega) (by decide) rfl lk_Tree_76 rfl rfl (Nat.zero_le _) (Nat.le_of_ble_eq_true rfl) (Nat.le_of_ble_eq_true rfl) (Nat.zero_le _) (Nat.zero_le _) dX9_countIn_20 (sp_kR fun v20 m20 hp20 => ?_)
        obtain ⟨hp20v, hp20⟩ := hp20; replace hp20 := (hp20).symm; subst hp20; replace hp20v := (hp20v).symm; subst hp20v
        rw [hb]
        refine sp_checkcast X (pc := 23) (a := b) (c := 5) rfl (by first | assumption | omega) (by decide) cl_Tree_30 dX9_countIn_23 ?_
        refine sp_astore X (pc := 26) (lv' := [(4, false, va_rf (some b)), (0, false, va_rf (some (A 5))), (1, false, va_rf (some f)), (2, false, .int x), (3, false, .int (nI i))]) dX9_countIn_26  (by decide) rfl ?_
        refine sp_aload X (pc := 28) (r := some b) dX9_countIn_28 rfl ?_
        refine sp_getfield X (pc := 30) (c := 5) (i := 7) (t := 0) (a := b) (v := .int (m.fI 327 b)) rfl (by first | assumption | omega) (by decide) rfl rfl fl_Tree_80 dX9_countIn_30 ?_
        refine sp_if_ne X (pc := 33) (tgt := 48) dX9_countIn_33 (by decide) (fun hb33 => ?_) (fun hb33 => ?_)
        · refine sp_iinc X (pc := 48) (v := nI (i + 1)) (lv' := [(3, false, .int (nI (i + 1))), (4, false, va_rf (some b)), (0, false, va_rf (some (A 5))), (1, false, va_rf (some f)), (2, false, .int x)]) dX9_countIn_48 rfl (nI_1 i) (by decide) rfl ?_
          refine sp_goto X (pc := 51) (tgt := 4) dX9_countIn_51 (by decide) ?_
          refine sp_pick X [2, 3, 4, 0] (lv' := [(0, false, va_rf (some (A 5))), (1, false, va_rf (some f)), (2, false, .int x), (3, false, .int (nI (i + 1)))]) rfl ?_
          exact ih (s - (i + 1)) (by omega) (i + 1) _ (by omega) rfl
        · refine sp_aload X (pc := 36) (r := some b) dX9_countIn_36 rfl ?_
          refine sp_callV X (pc := 38) (mc := 0) (ms := 0) (b := b) (c := 5) (r := some b) (As := []) (rest := []) (c_Node_up l G _ hbt) ok_Node_up rfl hbt (by decide) rfl lk_Tree_84 rfl rfl (Nat.zero_le _) (Nat.le_of_ble_eq_true rfl) (Nat.le_of_ble_eq_true rfl) (Nat.zero_le _) (Nat.zero_le _) dX9_countIn_38 (sp_kR fun v38 m38 hp38 => ?_)
          obtain ⟨hp38v, hp38⟩ := hp38; replace hp38 := (hp38).symm; subst hp38; replace hp38v := (hp38v).symm; subst hp38v
          refine sp_aload_n X (pc := 41) (r := some f) dX9_countIn_41 rfl rfl ?_
          refine sp_acmp_ne X (pc := 42) (tgt := 48) dX9_countIn_42 (by decide) (fun hb42 => ?_) (fun hb42 => ?_)
          · refine sp_iinc X (pc := 48) (v := nI (i + 1)) (lv' := [(3, false, .int (nI (i + 1))), (4, false, va_rf (some b)), (0, false, va_rf (some (A 5))), (1, false, va_rf (some f)), (2, false, .int x)]) dX9_countIn_48 rfl (nI_1 i) (by decide) rfl ?_
            refine sp_goto X (pc := 51) (tgt := 4) dX9_countIn_51 (by decide) ?_
            refine sp_pick X [2, 3, 4, 0] (lv' := [(0, false, va_rf (some (A 5))), (1, false, va_rf (some f)), (2, false, .int x), (3, false, .int (nI (i + 1)))]) rfl ?_
            exact ih (s - (i + 1)) (by omega) (i + 1) _ (by omega) rfl
          · refine sp_iinc X (pc := 45) (v := (x + 1)) (lv' := [(2, false, .int (x + 1)), (4, false, va_rf (some b)), (0, false, va_rf (some (A 5))), (1, false, va_rf (some f)), (3, false, .int (nI i))]) dX9_countIn_45 rfl (rfl) (by decide) rfl ?_
            refine sp_iinc X (pc := 48) (v := nI (i + 1)) (lv' := [(3, false, .int (nI (i + 1))), (2, false, .int (x + 1)), (4, false, va_rf (some b)), (0, false, va_rf (some (A 5))), (1, false, va_rf (some f))]) dX9_countIn_48 rfl (nI_1 i) (by decide) rfl ?_
            refine sp_goto X (pc := 51) (tgt := 4) dX9_countIn_51 (by decide) ?_
            refine sp_pick X [3, 4, 1, 0] (lv' := [(0, false, va_rf (some (A 5))), (1, false, va_rf (some f)), (2, false, .int (x + 1)), (3, false, .int (nI (i + 1)))]) rfl ?_
            exact ih (s - (i + 1)) (by omega) (i + 1) _ (by omega) rfl
  refine sp_pick X [2, 3, 1, 0] (lv' := [(0, false, va_rf (some (A 5))), (1, false, va_rf (some f)), (2, false, .int 0), (3, false, .int 0)]) rfl ?_
  exact loop4 _ 0 0 (Nat.zero_le _) rfl
set_option maxRecDepth 20000 in
theorem c_Tree_countFilesWith (l : Launch) (G : sp_G) (m : sp_M) {P : Nat → Prop} {A : Nat → Nat} (hJ : sp_J G P sp_E0 m) (ht : sp_tr m A) {f : Nat} (hf : m.ty f = 2) : sp_C l G M_Tree_countFilesWith 0 0 [.ref (A 5), .ref f] m (sp_oI fun v m' => True ∧ m' = m) := by
  refine sp_enter (lv0 := [(0, false, va_rf (some (A 5))), (1, false, va_rf (some f))]) "SafePaths$Tree" false rfl (by decide) (fun h => by cases h) (Nat.le_of_ble_eq_true rfl) rfl ?_
  intro w X
  obtain ⟨t0, t1, t2, t3, t4, t5, t6, t7, t8, t9, t10, t11, t12, t13, t14, t15, t16⟩ := ht
  obtain ⟨ed, s, hli, hel6⟩ := hJ.lst t4 t5
  have hsz := hli.2.2.1
  have hs9 : s < 2 ^ 31 := by have := hli.2.2.2.1; have := hli.2.2.2.2.1; omega
  refine sp_iconst X (pc := 0) (v := 0) dX9_countFilesWith_0 (by decide) ?_
  refine sp_istore_n X (pc := 1) (lv' := [(2, false, .int 0), (0, false, va_rf (some (A 5))), (1, false, va_rf (some f))]) dX9_countFilesWith_1 rfl (by decide) rfl ?_
  refine sp_iconst X (pc := 2) (v := 0) dX9_countFilesWith_2 (by decide) ?_
  refine sp_istore_n X (pc := 3) (lv' := [(3, false, .int 0), (2, false, .int 0), (0, false, va_rf (some (A 5))), (1, false, va_rf (some f))]) dX9_countFilesWith_3 rfl (by decide) rfl ?_
  have loop4 : ∀ (dz : Nat) (i : Nat) (x : Int32), i ≤ s → s - i = dz → w 0 0 m 4 [(0, false, va_rf (some (A 5))), (1, false, va_rf (some f)), (2, false, .int x), (3, false, .int (nI i))] [] := by
    intro dz
    induction dz using Nat.strongRecOn with
    | ind dz ih =>
      intro i x hi0 hdz
      refine sp_iload_n X (pc := 4) (x := nI i) dX9_countFilesWith_4 rfl rfl ?_
      refine sp_aload_n X (pc := 5) (r := some (A 5)) dX9_countFilesWith_5 rfl rfl ?_
      refine sp_getfield X (pc := 6) (c := 10) (i := 1) (t := 2) (a := (A 5)) (v := va_rf (some (A 9))) rfl (by first | assumption | omega) (by decide) rfl (congrArg va_rf t3) fl_Tree_16 dX9_countFilesWith_6 ?_
      refine sp_callV X (pc := 9) (mc := 0) (ms := 0) (b := (A 9)) (c := 0) (r := (some (A 9))) (As := []) (rest := [.int (nI i)]) (c_List_size l G _ t4) ok_List_size rfl (by first | assumption | omega) (by decide) rfl lk_Tree_72 rfl rfl (by simp [sp_cat_rf, sp_cat_i, sp_cat_l]) (Nat.le_of_ble_eq_true rfl) (Nat.le_of_ble_eq_true rfl) (Nat.zero_le _) (Nat.zero_le _) dX9_countFilesWith_9 (sp_kI fun v9 m9 hp9 => ?_)
      obtain ⟨hp9v, hp9⟩ := hp9; replace hp9 := (hp9).symm; subst hp9; replace hp9v := (hp9v).symm; subst hp9v
      rw [hsz]
      refine sp_icmp_ge X (pc := 12) (tgt := 54) dX9_countFilesWith_12 (by decide) (fun hb12 => ?_) (fun hb12 => ?_)
      · have hi : s ≤ i := sp_nge hb12 (by omega) (by omega)
        refine sp_iload_n X (pc := 54) (x := x) dX9_countFilesWith_54 rfl rfl ?_
        refine sp_ireturn X (pc := 55) dX9_countFilesWith_55 rfl ⟨_, rfl, ?_⟩
        exact ⟨trivial, rfl⟩
      · have hi : i < s := sp_nlt hb12 (by omega)
        obtain ⟨b, hb, hbt⟩ := hel6 i hi
        refine sp_aload_n X (pc := 15) (r := some (A 5)) dX9_countFilesWith_15 rfl rfl ?_
        refine sp_getfield X (pc := 16) (c := 10) (i := 1) (t := 2) (a := (A 5)) (v := va_rf (some (A 9))) rfl (by first | assumption | omega) (by decide) rfl (congrArg va_rf t3) fl_Tree_16 dX9_countFilesWith_16 ?_
        refine sp_iload_n X (pc := 19) (x := nI i) dX9_countFilesWith_19 rfl rfl ?_
        refine sp_callV X (pc := 20) (mc := 0) (ms := 0) (b := (A 9)) (c := 0) (r := (some (A 9))) (As := [.int (nI i)]) (rest := []) (c_List_get l G _ hli hi) ok_List_get rfl (by first | assumption | omega) (by decide) rfl lk_Tree_76 rfl rfl (Nat.zero_le _) (Nat.le_of_ble_eq_true rfl) (Nat.le_of_ble_eq_true rfl) (Nat.zero_le _) (Nat.zero_le _) dX9_countFilesWith_20 (sp_kR fun v20 m20 hp20 => ?_)
        obtain ⟨hp20v, hp20⟩ := hp20; replace hp20 := (hp20).symm; subst hp20; replace hp20v := (hp20v).symm; subst hp20v
        rw [hb]
        refine sp_checkcast X (pc := 23) (a := b) (c := 5) rfl (by first | assumption | omega) (by decide) cl_Tree_30 dX9_countFilesWith_23 ?_
        refine sp_astore X (pc := 26) (lv' := [(4, false, va_rf (some b)), (0, false, va_rf (some (A 5))), (1, false, va_rf (some f)), (2, false, .int x), (3, false, .int (nI i))]) dX9_countFilesWith_26  (by decide) rfl ?_
        refine sp_aload X (pc := 28) (r := some b) dX9_countFilesWith_28 rfl ?_
        refine sp_getfield X (pc := 30) (c := 5) (i := 7) (t := 0) (a := b) (v := .int (m.fI 327 b)) rfl (by first | assumption | omega) (by decide) rfl rfl fl_Tree_80 dX9_countFilesWith_30 ?_
        refine sp_if_ne X (pc := 33) (tgt := 48) dX9_countFilesWith_33 (by decide) (fun hb33 => ?_) (fun hb33 => ?_)
        · refine sp_iinc X (pc := 48) (v := nI (i + 1)) (lv' := [(3, false, .int (nI (i + 1))), (4, false, va_rf (some b)), (0, false, va_rf (some (A 5))), (1, false, va_rf (some f)), (2, false, .int x)]) dX9_countFilesWith_48 rfl (nI_1 i) (by decide) rfl ?_
          refine sp_goto X (pc := 51) (tgt := 4) dX9_countFilesWith_51 (by decide) ?_
          refine sp_pick X [2, 3, 4, 0] (lv' := [(0, false, va_rf (some (A 5))), (1, false, va_rf (some f)), (2, false, .int x), (3, false, .int (nI (i + 1)))]) rfl ?_
          exact ih (s - (i + 1)) (by omega) (i + 1) _ (by omega) rfl
        · refine sp_aload X (pc := 36) (r := some b) dX9_countFilesWith_36 rfl ?_
          refine sp_getfield X (pc := 38) (c := 5) (i := 3) (t := 2) (a := b) (v := va_rf (m.fR 323 b)) rfl (by first | assumption | omega) (by decide) rfl rfl fl_Tree_135 dX9_countFilesWith_38 ?_
          refine sp_aload_n X (pc := 41) (r := some f) dX9_countFilesWith_41 rfl rfl ?_
          refine sp_acmp_ne X (pc := 42) (tgt := 48) dX9_countFilesWith_42 (by decide) (fun hb42 => ?_) (fun hb42 => ?_)
          · refine sp_iinc X (pc := 48) (v := nI (i + 1)) (lv' := [(3, false, .int (nI (i + 1))), (4, false, va_rf (some b)), (0, false, va_rf (some (A 5))), (1, false, va_rf (some f)), (2, false, .int x)]) dX9_countFilesWith_48 rfl (nI_1 i) (by decide) rfl ?_
            refine sp_goto X (pc := 51) (tgt := 4) dX9_countFilesWith_51 (by decide) ?_
            refine sp_pick X [2, 3, 4, 0] (lv' := [(0, false, va_rf (some (A 5))), (1, false, va_rf (some f)), (2, false, .int x), (3, false, .int (nI (i + 1)))]) rfl ?_
            exact ih (s - (i + 1)) (by omega) (i + 1) _ (by omega) rfl
          · refine sp_iinc X (pc := 45) (v := (x + 1)) (lv' := [(2, false, .int (x + 1)), (4, false, va_rf (some b)), (0, false, va_rf (some (A 5))), (1, false, va_rf (some f)), (3, false, .int (nI i))]) dX9_countFilesWith_45 rfl (rfl) (by decide) rfl ?_
            refine sp_iinc X (pc := 48) (v := nI (i + 1)) (lv' := [(3, false, .int (nI (i + 1))), (2, false, .int (x + 1)), (4, false, va_rf (some b)), (0, false, va_rf (some (A 5))), (1, false, va_rf (some f))]) dX9_countFilesWith_48 rfl (nI_1 i) (by decide) rfl ?_
            refine sp_goto X (pc := 51) (tgt := 4) dX9_countFilesWith_51 (by decide) ?_
            refine sp_pick X [3, 4, 1, 0] (lv' := [(0, false, va_rf (some (A 5))), (1, false, va_rf (some f)), (2, false, .int (x + 1)), (3, false, .int (nI (i + 1)))]) rfl ?_
            exact ih (s - (i + 1)) (by omega) (i + 1) _ (by omega) rfl
  refine sp_pick X [2, 3, 1, 0] (lv' := [(0, false, va_rf (some (A 5))), (1, false, va_rf (some f)), (2, false, .int 0), (3, false, .int 0)]) rfl ?_
  exact loop4 _ 0 0 (Nat.zero_le _) rfl
