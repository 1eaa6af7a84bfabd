
/-- nothing is left out -/
def sp_E0 : Nat → Prop := fun _ => False
theorem sp_e0 (a : Nat) : ¬ sp_E0 a := fun z => z
/-- a PATH or TARGET at p: its list, row, number of parts -/
def sp_pt (G : sp_G) (m : sp_M) (p L ed s : Nat) : Prop := m.ty p = 8 ∧ m.fR 450 p = some L ∧ sp_li G m L ed s ∧ (∃ nn, m.fR 451 p = some nn ∧ m.ty nn = 5) ∧ (∀ j, j < s → ∃ b, m.aR ed j = some b ∧ m.ty b = 5) ∧ s ≤ m.ln p ∧ m.ln p ≤ 161
theorem sp_J.pt {G : sp_G} {P : Nat → Prop} {m : sp_M} (hJ : sp_J G P sp_E0 m) {p : Nat} (hp : m.ty p = 8) : ∃ L ed s, sp_pt G m p L ed s := by
  obtain ⟨L, nn, s, h1, h2, h3, h4, h5, h6, h7, h8⟩ := hJ.2.2.2.2.2.1 p hp (sp_e0 _)
  obtain ⟨⟨ed, s', hli, hel⟩, hrl⟩ := hJ.2.1 L h2 (sp_e0 _)
  have hs : s' = s := by
    refine (nI_eq (by have := hli.2.2.2.1; have := hli.2.2.2.2.1; omega) (by omega)).mp (hli.2.2.1.symm.trans h6)
  subst hs
  refine ⟨L, ed, s', hp, h1, hli, ⟨nn, h4, h5⟩, fun j hj => ?_, h7, h8⟩
  obtain ⟨b, q1, q2, -⟩ := hel j hj
  rw [h3] at q2
  exact ⟨b, q1, q2⟩
/-- a PATH or TARGET: number, names -/
def sp_pv (G : sp_G) (m : sp_M) (pa num : Nat) (us : List (List Int32)) : Prop := m.ty pa = 8 ∧ m.fI 448 pa = nI num ∧ (∃ nn, m.fR 451 pa = some nn ∧ sp_nv m nn []) ∧ ∃ L ed, m.fR 450 pa = some L ∧ sp_li G m L ed us.length ∧ ∀ k, k < us.length → ∃ nm, m.aR ed k = some nm ∧ sp_nv m nm (us.getD k [])
theorem sp_pv.fx {G : sp_G} {m m' : sp_M} {w : sp_W} {pa num : Nat} {us : List (List Int32)} (h : sp_pv G m pa num us) (hwf : sp_wf m) (hf : sp_fx m m' w) (h8 : ¬ w.1 448 pa) (h0 : ¬ w.2.2.1 450 pa) (h1 : ¬ w.2.2.1 451 pa) (hL : ∀ L, m.fR 450 pa = some L → m.ty L = 1 → ¬ w.1 2 L ∧ ¬ w.2.2.1 1 L ∧ ∀ ed, m.fR 1 L = some ed → ¬ w.2.2.2 ed) (h6 : ∀ nm, m.ty nm = 5 → ¬ w.2.2.1 256 nm ∧ ¬ w.2.2.1 257 nm) (ha : ∀ nm b s, sp_nm m nm b s → ¬ w.2.2.2 b) : sp_pv G m' pa num us := by
  obtain ⟨a1, a2, ⟨nn, a3, a4⟩, L, ed, a5, a6, a7⟩ := h
  have l1 : pa < m.nx := hwf pa (by omega)
  have hLL := hL L a5 a6.1
  have led : ed < m.nx := hwf ed (by have := a6.2.2.2.2.2; omega)
  have hnv : ∀ nm u, sp_nv m nm u → sp_nv m' nm u := fun nm u h => by
    have ht : m.ty nm = 5 := by obtain ⟨b, s, q, -⟩ := h; exact q.1
    exact h.gen hwf hf (h6 nm ht).1 (h6 nm ht).2 (fun b s q => ha nm b s q)
  refine ⟨(hf.2.1 pa l1).1.trans a1, (hf.2.2.1 _ _ l1 h8).trans a2, ⟨nn, (hf.2.2.2.2.1 _ _ l1 h1).trans a3, hnv _ _ a4⟩, L, ed, (hf.2.2.2.2.1 _ _ l1 h0).trans a5, hf.li hwf a6 hLL.1 hLL.2.1, fun k hk => ?_⟩
  obtain ⟨nm, q1, q2⟩ := a7 k hk
  refine ⟨nm, ?_, hnv _ _ q2⟩
  rw [(hf.2.2.2.2.2 ed led (hLL.2.2 ed a6.2.1)).2.2]
  exact q1
theorem sp_pv.pt {G : sp_G} {m : sp_M} {pa num L ed s : Nat} {us : List (List Int32)} (h : sp_pv G m pa num us) (hp : sp_pt G m pa L ed s) : s = us.length ∧ (∀ k, k < s → ∃ nm, m.aR ed k = some nm ∧ sp_nv m nm (us.getD k [])) ∧ ∃ nn, m.fR 451 pa = some nn ∧ sp_nv m nn [] := by
  obtain ⟨h1, h2, h3, L', ed', h4, h5, h6⟩ := h
  cases h4.symm.trans hp.2.1
  obtain ⟨rfl, rfl⟩ := sp_sz_fun h5 hp.2.2.1
  exact ⟨rfl, h6, h3⟩
theorem sp_vin {i : Int32} {n : Nat} (h : vp_in i n) : ∃ j, j < n ∧ i = nI j ∧ i.toNatClampNeg = j := by
  by_cases h0 : i < 0
  · exact absurd (Or.inl h0) h
  · obtain ⟨j, hj, rfl⟩ := nI_of h0
    refine ⟨j, Nat.lt_of_not_le (fun q => h (Or.inr (by rw [nI_clamp hj]; exact q))), rfl, nI_clamp hj⟩
theorem sp_vno {i : Int32} {n : Nat} (h : ¬ vp_in i n) (hn : n < 2 ^ 31) : ¬ ∃ j, j < n ∧ i = nI j := by
  rintro ⟨j, hj, rfl⟩
  exact h (nI_in hj hn)
/-- Parted.at, in pure words -/
theorem sp_pv.at_ {G : sp_G} {m : sp_M} {pa num L ed s nm : Nat} {us : List (List Int32)} {y : Int32} (h : sp_pv G m pa num us) (hp : sp_pt G m pa L ed s) (h1 : ∀ j, j < s → y = nI j → m.aR ed j = some nm) (h2 : (∃ j, j < s ∧ y = nI j) ∨ (¬ vp_in y s ∧ m.fR 451 pa = some nm)) : ∃ u, sp_nv m nm u ∧ ((∃ k, k < us.length ∧ y = nI k ∧ u = us.getD k []) ∨ ((¬ ∃ k, k < us.length ∧ y = nI k) ∧ u = [])) := by
  obtain ⟨rfl, g1, nn, g2, g3⟩ := h.pt hp
  have hl : us.length < 2 ^ 31 := by have := hp.2.2.2.2.2.1; have := hp.2.2.2.2.2.2; omega
  rcases h2 with ⟨j, q1, q2⟩ | ⟨q1, q2⟩
  · obtain ⟨nm', r1, r2⟩ := g1 j q1
    cases (h1 j q1 q2).symm.trans r1
    exact ⟨_, r2, Or.inl ⟨j, q1, q2, rfl⟩⟩
  · cases q2.symm.trans g2
    exact ⟨_, g3, Or.inr ⟨sp_vno q1 hl, rfl⟩⟩
theorem sp_idx {i : Int32} {s : Nat} (hs : s < 2 ^ 31) (h0 : ¬ i < 0) (h1 : ¬ nI s ≤ i) : ∃ j, j < s ∧ i = nI j := by
  obtain ⟨j, hj, rfl⟩ := nI_of h0
  exact ⟨j, Nat.lt_of_not_le fun q => h1 (nI_le q hj), rfl⟩
theorem sp_nin {i : Int32} {s : Nat} (hs : s < 2 ^ 31) (h : i < 0 ∨ nI s ≤ i) : ¬ vp_in i s := by
  rintro q
  rcases h with h | h
  · exact q (Or.inl h)
  · by_cases h0 : i < 0
    · exact q (Or.inl h0)
    · obtain ⟨j, hj, rfl⟩ := nI_of h0
      refine q (Or.inr ?_)
      rw [nI_clamp hj]
      exact (nI_leI hs hj).mp h
set_option maxRecDepth 20000 in
theorem c_Parted_count (l : Launch) (G : sp_G) (m : sp_M) {p L ed s : Nat} (h : sp_pt G m p L ed s) : sp_C l G M_Parted_count 0 0 [.ref p] m (sp_oI fun v m' => v = nI s ∧ m' = m) := by
  refine sp_enter (lv0 := [(0, false, va_rf (some p))]) "SafePaths$Parted" false rfl (by decide) (fun h => by cases h) (Nat.le_of_ble_eq_true rfl) rfl ?_
  intro w X
  have hp := h.1
  have hL := h.2.1
  have hli := h.2.2.1
  have hLt := hli.1
  have hsz := hli.2.2.1
  have hs9 : s < 2 ^ 31 := by have := h.2.2.2.2.2.1; have := h.2.2.2.2.2.2; omega
  refine sp_aload_n X (pc := 0) (r := some p) dX6_count_0 rfl rfl ?_
  refine sp_getfield X (pc := 1) (c := 7) (i := 2) (t := 2) (a := p) (v := va_rf (some L)) rfl (by first | assumption | omega) (by decide) rfl (congrArg va_rf hL) fl_Parted_17 dX6_count_1 ?_
  refine sp_callV X (pc := 4) (mc := 0) (ms := 0) (b := L) (c := 0) (r := (some L)) (As := []) (rest := []) (c_List_size l G _ hLt) ok_List_size rfl (by first | assumption | omega) (by decide) rfl lk_Parted_36 rfl rfl (Nat.zero_le _) (Nat.le_of_ble_eq_true rfl) (Nat.le_of_ble_eq_true rfl) (Nat.zero_le _) (Nat.zero_le _) dX6_count_4 (sp_kI fun v4 m4 hp4 => ?_)
  obtain ⟨hp4v, hp4⟩ := hp4; replace hp4 := (hp4).symm; subst hp4; replace hp4v := (hp4v).symm; subst hp4v
  rw [hsz]
  refine sp_ireturn X (pc := 7) dX6_count_7 rfl ⟨_, rfl, ?_⟩
  first | exact ⟨rfl, rfl⟩ | rfl | (refine ⟨?_, rfl⟩; first | (rw [if_pos (by assumption)]; done) | (rw [if_neg (by assumption)]; done) | (split <;> simp_all; done))
set_option maxRecDepth 20000 in
theorem c_Parted_at (l : Launch) (G : sp_G) (m : sp_M) {p L ed s : Nat} (h : sp_pt G m p L ed s) {i : Int32} : sp_C l G M_Parted_at 0 0 [.ref p, .int i] m (sp_oR fun v m' => (∃ b, v = some b ∧ m.ty b = 5 ∧ (∀ j, j < s → i = nI j → m.aR ed j = some b) ∧ ((∃ j, j < s ∧ i = nI j) ∨ (¬ vp_in i s ∧ m.fR 451 p = some b))) ∧ m' = m) := by
  refine sp_enter (lv0 := [(0, false, va_rf (some p)), (1, false, .int i)]) "SafePaths$Parted" false rfl (by decide) (fun h => by cases h) (Nat.le_of_ble_eq_true rfl) rfl ?_
  intro w X
  have hp := h.1
  have hL := h.2.1
  have hli := h.2.2.1
  have hLt := hli.1
  have hsz := hli.2.2.1
  have hs9 : s < 2 ^ 31 := by have := h.2.2.2.2.2.1; have := h.2.2.2.2.2.2; omega
  obtain ⟨nn, hnn, hnt⟩ := h.2.2.2.1
  refine sp_iload_n X (pc := 0) (x := i) dX6_at_0 rfl rfl ?_
  refine sp_if_lt X (pc := 1) (tgt := 29) dX6_at_1 (by decide) (fun hb1 => ?_) (fun hb1 => ?_)
  · refine sp_aload_n X (pc := 29) (r := some p) dX6_at_29 rfl rfl ?_
    refine sp_getfield X (pc := 30) (c := 7) (i := 3) (t := 2) (a := p) (v := va_rf (some nn)) rfl (by first | assumption | omega) (by decide) rfl (congrArg va_rf hnn) fl_Parted_32 dX6_at_30 ?_
    refine sp_areturn X (pc := 33) (by first | exact Or.inl ⟨_, rfl⟩ | exact Or.inr ⟨_, rfl⟩) dX6_at_33 ⟨_, rfl, ?_⟩
    first
      | exact ⟨⟨b, rfl, hbt, fun j2 h2 h3 => by rw [← sp_neq h3 (by omega) (by omega)]; exact hb, Or.inl ⟨j, hj, rfl⟩⟩, rfl⟩
      | exact ⟨⟨nn, rfl, hnt, fun j h2 h3 => absurd hb1 (by rw [h3]; exact nI_pos (by omega)), Or.inr ⟨sp_nin hs9 (Or.inl hb1), hnn⟩⟩, rfl⟩
      | exact ⟨⟨nn, rfl, hnt, fun j h2 h3 => absurd hb12 (by rw [h3]; exact nI_ge h2 (by omega)), Or.inr ⟨sp_nin hs9 (Or.inr hb12), hnn⟩⟩, rfl⟩
  · refine sp_iload_n X (pc := 4) (x := i) dX6_at_4 rfl rfl ?_
    refine sp_aload_n X (pc := 5) (r := some p) dX6_at_5 rfl rfl ?_
    refine sp_getfield X (pc := 6) (c := 7) (i := 2) (t := 2) (a := p) (v := va_rf (some L)) rfl (by first | assumption | omega) (by decide) rfl (congrArg va_rf hL) fl_Parted_17 dX6_at_6 ?_
    refine sp_callV X (pc := 9) (mc := 0) (ms := 0) (b := L) (c := 0) (r := (some L)) (As := []) (rest := [.int i]) (c_List_size l G _ hLt) ok_List_size rfl (by first | assumption | omega) (by decide) rfl lk_Parted_36 rfl rfl (by simp [sp_cat_rf, sp_cat_i, sp_cat_l]) (Nat.le_of_ble_eq_true rfl) (Nat.le_of_ble_eq_true rfl) (Nat.zero_le _) (Nat.zero_le _) dX6_at_9 (sp_kI fun v9 m9 hp9 => ?_)
    obtain ⟨hp9v, hp9⟩ := hp9; replace hp9 := (hp9).symm; subst hp9; replace hp9v := (hp9v).symm; subst hp9v
    rw [hsz]
    refine sp_icmp_ge X (pc := 12) (tgt := 29) dX6_at_12 (by decide) (fun hb12 => ?_) (fun hb12 => ?_)
    · refine sp_aload_n X (pc := 29) (r := some p) dX6_at_29 rfl rfl ?_
      refine sp_getfield X (pc := 30) (c := 7) (i := 3) (t := 2) (a := p) (v := va_rf (some nn)) rfl (by first | assumption | omega) (by decide) rfl (congrArg va_rf hnn) fl_Parted_32 dX6_at_30 ?_
      refine sp_areturn X (pc := 33) (by first | exact Or.inl ⟨_, rfl⟩ | exact Or.inr ⟨_, rfl⟩) dX6_at_33 ⟨_, rfl, ?_⟩
      first
        | exact ⟨⟨b, rfl, hbt, fun j2 h2 h3 => by rw [← sp_neq h3 (by omega) (by omega)]; exact hb, Or.inl ⟨j, hj, rfl⟩⟩, rfl⟩
        | exact ⟨⟨nn, rfl, hnt, fun j h2 h3 => absurd hb1 (by rw [h3]; exact nI_pos (by omega)), Or.inr ⟨sp_nin hs9 (Or.inl hb1), hnn⟩⟩, rfl⟩
        | exact ⟨⟨nn, rfl, hnt, fun j h2 h3 => absurd hb12 (by rw [h3]; exact nI_ge h2 (by omega)), Or.inr ⟨sp_nin hs9 (Or.inr hb12), hnn⟩⟩, rfl⟩
    · obtain ⟨j, hj, hij⟩ := sp_idx hs9 hb1 hb12
      subst hij
      obtain ⟨b, hb, hbt⟩ := h.2.2.2.2.1 j hj
      refine sp_aload_n X (pc := 15) (r := some p) dX6_at_15 rfl rfl ?_
      refine sp_getfield X (pc := 16) (c := 7) (i := 2) (t := 2) (a := p) (v := va_rf (some L)) rfl (by first | assumption | omega) (by decide) rfl (congrArg va_rf hL) fl_Parted_17 dX6_at_16 ?_
      refine sp_iload_n X (pc := 19) (x := nI j) dX6_at_19 rfl rfl ?_
      refine sp_callV X (pc := 20) (mc := 0) (ms := 0) (b := L) (c := 0) (r := (some L)) (As := [.int (nI j)]) (rest := []) (c_List_get l G _ hli hj) ok_List_get rfl (by first | assumption | omega) (by decide) rfl lk_Parted_42 rfl rfl (Nat.zero_le _) (Nat.le_of_ble_eq_true rfl) (Nat.le_of_ble_eq_true rfl) (Nat.zero_le _) (Nat.zero_le _) dX6_at_20 (sp_kR fun v20 m20 hp20 => ?_)
      obtain ⟨hp20v, hp20⟩ := hp20; replace hp20 := (hp20).symm; subst hp20; replace hp20v := (hp20v).symm; subst hp20v
      rw [hb]
      refine sp_checkcast X (pc := 23) (a := b) (c := 4) rfl (by first | assumption | omega) (by decide) cl_Parted_21 dX6_at_23 ?_
      refine sp_goto X (pc := 26) (tgt := 33) dX6_at_26 (by decide) ?_
      refine sp_areturn X (pc := 33) (by first | exact Or.inl ⟨_, rfl⟩ | exact Or.inr ⟨_, rfl⟩) dX6_at_33 ⟨_, rfl, ?_⟩
      first
        | exact ⟨⟨b, rfl, hbt, fun j2 h2 h3 => by rw [← sp_neq h3 (by omega) (by omega)]; exact hb, Or.inl ⟨j, hj, rfl⟩⟩, rfl⟩
        | exact ⟨⟨nn, rfl, hnt, fun j h2 h3 => absurd hb1 (by rw [h3]; exact nI_pos (by omega)), Or.inr ⟨sp_nin hs9 (Or.inl hb1), hnn⟩⟩, rfl⟩
        | exact ⟨⟨nn, rfl, hnt, fun j h2 h3 => absurd hb12 (by rw [h3]; exact nI_ge h2 (by omega)), Or.inr ⟨sp_nin hs9 (Or.inr hb12), hnn⟩⟩, rfl⟩
set_option maxRecDepth 20000 in
theorem c_SP_memberOf (l : Launch) (G : sp_G) (m : sp_M) {L ed s r : Nat} {i : Int32} (hli : sp_li G m L ed s) (hel : ∀ j, j < s → ∃ b, m.aR ed j = some b ∧ m.ty b = 8) (hs9 : s < 2 ^ 31) : sp_C l G M_SP_memberOf 0 0 [.ref L, .int i] m (sp_oR fun v m' => ((∃ j b, j < s ∧ i = nI j ∧ v = some b ∧ m.aR ed j = some b ∧ m.ty b = 8) ∨ (¬ vp_in i s ∧ v = none)) ∧ m' = m) := by
  refine sp_enter (lv0 := [(0, false, va_rf (some L)), (1, false, .int i)]) "SafePaths" false rfl (by decide) (fun h => by cases h) (Nat.le_of_ble_eq_true rfl) rfl ?_
  intro w X
  have hLt := hli.1
  have hsz := hli.2.2.1
  refine sp_iload_n X (pc := 0) (x := i) dX11_memberOf_0 rfl rfl ?_
  refine sp_if_lt X (pc := 1) (tgt := 23) dX11_memberOf_1 (by decide) (fun hb1 => ?_) (fun hb1 => ?_)
  · refine sp_null X (pc := 23) dX11_memberOf_23 ?_
    refine sp_areturn X (pc := 24) (by first | exact Or.inl ⟨_, rfl⟩ | exact Or.inr ⟨_, rfl⟩) dX11_memberOf_24 ⟨_, rfl, ?_⟩
    first
      | exact ⟨Or.inl ⟨j, b, hj, rfl, rfl, hb, hbt⟩, rfl⟩
      | exact ⟨Or.inr ⟨sp_nin hs9 (Or.inl hb1), rfl⟩, rfl⟩
      | exact ⟨Or.inr ⟨sp_nin hs9 (Or.inr hb9), rfl⟩, rfl⟩
  · refine sp_iload_n X (pc := 4) (x := i) dX11_memberOf_4 rfl rfl ?_
    refine sp_aload_n X (pc := 5) (r := some L) dX11_memberOf_5 rfl rfl ?_
    refine sp_callV X (pc := 6) (mc := 0) (ms := 0) (b := L) (c := 0) (r := some L) (As := []) (rest := [.int i]) (c_List_size l G _ hLt) ok_List_size rfl (by first | assumption | omega) (by decide) rfl lk_SP_81 rfl rfl (by simp [sp_cat_rf, sp_cat_i, sp_cat_l]) (Nat.le_of_ble_eq_true rfl) (Nat.le_of_ble_eq_true rfl) (Nat.zero_le _) (Nat.zero_le _) dX11_memberOf_6 (sp_kI fun v6 m6 hp6 => ?_)
    obtain ⟨hp6v, hp6⟩ := hp6; replace hp6 := (hp6).symm; subst hp6; replace hp6v := (hp6v).symm; subst hp6v
    rw [hsz]
    refine sp_icmp_ge X (pc := 9) (tgt := 23) dX11_memberOf_9 (by decide) (fun hb9 => ?_) (fun hb9 => ?_)
    · refine sp_null X (pc := 23) dX11_memberOf_23 ?_
      refine sp_areturn X (pc := 24) (by first | exact Or.inl ⟨_, rfl⟩ | exact Or.inr ⟨_, rfl⟩) dX11_memberOf_24 ⟨_, rfl, ?_⟩
      first
        | exact ⟨Or.inl ⟨j, b, hj, rfl, rfl, hb, hbt⟩, rfl⟩
        | exact ⟨Or.inr ⟨sp_nin hs9 (Or.inl hb1), rfl⟩, rfl⟩
        | exact ⟨Or.inr ⟨sp_nin hs9 (Or.inr hb9), rfl⟩, rfl⟩
    · obtain ⟨j, hj, hij⟩ := sp_idx hs9 hb1 hb9
      subst hij
      obtain ⟨b, hb, hbt⟩ := hel j hj
      refine sp_aload_n X (pc := 12) (r := some L) dX11_memberOf_12 rfl rfl ?_
      refine sp_iload_n X (pc := 13) (x := nI j) dX11_memberOf_13 rfl rfl ?_
      refine sp_callV X (pc := 14) (mc := 0) (ms := 0) (b := L) (c := 0) (r := some L) (As := [.int (nI j)]) (rest := []) (c_List_get l G _ hli hj) ok_List_get rfl (by first | assumption | omega) (by decide) rfl lk_SP_135 rfl rfl (Nat.zero_le _) (Nat.le_of_ble_eq_true rfl) (Nat.le_of_ble_eq_true rfl) (Nat.zero_le _) (Nat.zero_le _) dX11_memberOf_14 (sp_kR fun v14 m14 hp14 => ?_)
      obtain ⟨hp14v, hp14⟩ := hp14; replace hp14 := (hp14).symm; subst hp14; replace hp14v := (hp14v).symm; subst hp14v
      rw [hb]
      refine sp_checkcast X (pc := 17) (a := b) (c := 7) rfl (by first | assumption | omega) (by decide) cl_SP_85 dX11_memberOf_17 ?_
      refine sp_goto X (pc := 20) (tgt := 24) dX11_memberOf_20 (by decide) ?_
      refine sp_areturn X (pc := 24) (by first | exact Or.inl ⟨_, rfl⟩ | exact Or.inr ⟨_, rfl⟩) dX11_memberOf_24 ⟨_, rfl, ?_⟩
      first
        | exact ⟨Or.inl ⟨j, b, hj, rfl, rfl, hb, hbt⟩, rfl⟩
        | exact ⟨Or.inr ⟨sp_nin hs9 (Or.inl hb1), rfl⟩, rfl⟩
        | exact ⟨Or.inr ⟨sp_nin hs9 (Or.inr hb9), rfl⟩, rfl⟩

theorem sp_min0 {a b : Int32} (ha : a ≤ 0) (hb : b ≤ 0) (hab : a = 0 ∨ b = 0) : pu_ea (if b < a then b else a) a b := by
  by_cases q : b < a
  · rw [if_pos q]
    rcases hab with z | z
    · exact Or.inl ⟨z, rfl⟩
    · rw [z] at q
      exact absurd q (Int32.not_lt.mpr ha)
  · rw [if_neg q]
    rcases hab with z | z
    · rw [z] at q
      exact Or.inr (Or.inl ⟨Int32.le_antisymm hb (Int32.not_lt.mp q), rfl⟩)
    · exact Or.inr (Or.inl ⟨z, rfl⟩)
theorem sp_max0 {a b : Int32} (ha : a ≤ 0) (hb : b ≤ 0) (h1 : ¬ a = 0) (h2 : ¬ b = 0) : pu_ea (if a < b then b else a) a b := by
  by_cases q : a < b
  · rw [if_pos q]
    exact Or.inr (Or.inr ⟨h1, h2, Or.inl ⟨Int32.le_iff_toInt_le.mpr (Int.le_of_lt (Int32.lt_iff_toInt_lt.mp q)), rfl⟩⟩)
  · rw [if_neg q]
    exact Or.inr (Or.inr ⟨h1, h2, Or.inr ⟨Int32.not_lt.mp q, rfl⟩⟩)
set_option maxRecDepth 20000 in
theorem c_SP_earlierOf (l : Launch) (G : sp_G) (m : sp_M) {a b : Int32} (ha : a ≤ 0) (hb : b ≤ 0) : sp_C l G M_SP_earlierOf 0 0 [.int a, .int b] m (sp_oI fun v m' => pu_ea v a b ∧ m' = m) := by
  refine sp_enter (lv0 := [(0, false, .int a), (1, false, .int b)]) "SafePaths" false rfl (by decide) (fun h => by cases h) (Nat.le_of_ble_eq_true rfl) rfl ?_
  intro w X
  refine sp_iload_n X (pc := 0) (x := a) dX11_earlierOf_0 rfl rfl ?_
  refine sp_if_eq X (pc := 1) (tgt := 8) dX11_earlierOf_1 (by decide) (fun hb1 => ?_) (fun hb1 => ?_)
  · refine sp_iload_n X (pc := 8) (x := a) dX11_earlierOf_8 rfl rfl ?_
    refine sp_iload_n X (pc := 9) (x := b) dX11_earlierOf_9 rfl rfl ?_
    refine sp_callS X (pc := 10) (mc := 0) (ms := 0) (As := [.int a, .int b]) (rest := []) (c_Math_min l G _) ok_Math_min lk_SP_254 rfl rfl (Nat.zero_le _) (Nat.le_of_ble_eq_true rfl) (Nat.le_of_ble_eq_true rfl) (Nat.zero_le _) (Nat.zero_le _) dX11_earlierOf_10 (sp_kI fun v10 m10 hp10 => ?_)
    obtain ⟨hp10v, hp10⟩ := hp10; replace hp10 := (hp10).symm; subst hp10; replace hp10v := (hp10v).symm; subst hp10v
    refine sp_ireturn X (pc := 13) dX11_earlierOf_13 rfl ⟨_, rfl, ?_⟩
    first
      | exact ⟨sp_min0 ha hb (Or.inl hb1), rfl⟩
      | exact ⟨sp_min0 ha hb (Or.inr hb5), rfl⟩
  · refine sp_iload_n X (pc := 4) (x := b) dX11_earlierOf_4 rfl rfl ?_
    refine sp_if_ne X (pc := 5) (tgt := 14) dX11_earlierOf_5 (by decide) (fun hb5 => ?_) (fun hb5 => ?_)
    · refine sp_iload_n X (pc := 14) (x := a) dX11_earlierOf_14 rfl rfl ?_
      refine sp_iload_n X (pc := 15) (x := b) dX11_earlierOf_15 rfl rfl ?_
      refine sp_callS X (pc := 16) (mc := 0) (ms := 0) (As := [.int a, .int b]) (rest := []) (c_Math_max l G _) ok_Math_max lk_SP_259 rfl rfl (Nat.zero_le _) (Nat.le_of_ble_eq_true rfl) (Nat.le_of_ble_eq_true rfl) (Nat.zero_le _) (Nat.zero_le _) dX11_earlierOf_16 (sp_kI fun v16 m16 hp16 => ?_)
      obtain ⟨hp16v, hp16⟩ := hp16; replace hp16 := (hp16).symm; subst hp16; replace hp16v := (hp16v).symm; subst hp16v
      refine sp_ireturn X (pc := 19) dX11_earlierOf_19 rfl ⟨_, rfl, ?_⟩
      exact ⟨sp_max0 ha hb hb1 hb5, rfl⟩
    · refine sp_iload_n X (pc := 8) (x := a) dX11_earlierOf_8 rfl rfl ?_
      refine sp_iload_n X (pc := 9) (x := b) dX11_earlierOf_9 rfl rfl ?_
      refine sp_callS X (pc := 10) (mc := 0) (ms := 0) (As := [.int a, .int b]) (rest := []) (c_Math_min l G _) ok_Math_min lk_SP_254 rfl rfl (Nat.zero_le _) (Nat.le_of_ble_eq_true rfl) (Nat.le_of_ble_eq_true rfl) (Nat.zero_le _) (Nat.zero_le _) dX11_earlierOf_10 (sp_kI fun v10 m10 hp10 => ?_)
      obtain ⟨hp10v, hp10⟩ := hp10; replace hp10 := (hp10).symm; subst hp10; replace hp10v := (hp10v).symm; subst hp10v
      refine sp_ireturn X (pc := 13) dX11_earlierOf_13 rfl ⟨_, rfl, ?_⟩
      first
        | exact ⟨sp_min0 ha hb (Or.inl hb1), rfl⟩
        | exact ⟨sp_min0 ha hb (Or.inr hb5), rfl⟩
