
/-- the tree's own cells: A 5 the tree, A 0 the rules, A 9 the nodes, A 10 the bodies, A 11 top, A 12 root, A 13 home, A 14 key -/
def sp_tr (m : sp_M) (A : Nat → Nat) : Prop := m.ty (A 5) = 11 ∧ m.fR 640 (A 5) = some (A 0) ∧ m.ty (A 0) = 9 ∧ m.fR 641 (A 5) = some (A 9) ∧ m.ty (A 9) = 1 ∧ m.ln (A 9) = 6 ∧ m.fR 642 (A 5) = some (A 10) ∧ m.ty (A 10) = 1 ∧ m.ln (A 10) = 2 ∧ m.fR 643 (A 5) = some (A 11) ∧ m.ty (A 11) = 6 ∧ m.fR 644 (A 5) = some (A 12) ∧ m.ty (A 12) = 6 ∧ m.fR 645 (A 5) = some (A 13) ∧ m.ty (A 13) = 6 ∧ m.fR 646 (A 5) = some (A 14) ∧ m.ty (A 14) = 6
theorem sp_J.lst {G : sp_G} {P : Nat → Prop} {m : sp_M} (hJ : sp_J G P sp_E0 m) {L r : Nat} (hL : m.ty L = 1) (hr : m.ln L = r) : ∃ ed s, sp_li G m L ed s ∧ ∀ j, j < s → ∃ b, m.aR ed j = some b ∧ m.ty b = r % 10 := by
  obtain ⟨⟨ed, s, hli, hel⟩, -⟩ := hJ.2.1 L hL (sp_e0 _)
  refine ⟨ed, s, hli, fun j hj => ?_⟩
  obtain ⟨b, q1, q2, -⟩ := hel j hj
  rw [hr] at q2
  exact ⟨b, q1, q2⟩
/-- a TARGET by value -/
def sp_tv (G : sp_G) (m : sp_M) (R : Int32) (ta tn : Nat) (u : List Int32) : Prop := ∃ us, sp_us (fun i => u.getD i 0) R u.length us ∧ sp_pv G m ta tn us ∧ sp_bo (m.fI 449 ta) (¬ sp_pb R (u.getD 0 0) = 0)
/-- node j of the tree T, at NA j -/
def sp_nd (G : sp_G) (m : sp_M) (R : Int32) (TT : Nat → List Int32) (T : pu_N) (NA BA : Nat → Nat) (j : Nat) : Prop := m.ty (NA j) = 6 ∧ m.fI 320 (NA j) = nI j ∧ m.fR 321 (NA j) = (if j = 0 then none else some (NA (T.o j))) ∧ (∃ nm, m.fR 322 (NA j) = some nm ∧ sp_nv m nm (T.w j)) ∧ (m.fI 325 (NA j) = T.d j ∧ m.fI 326 (NA j) = T.s j ∧ m.fI 327 (NA j) = T.g j) ∧ m.fR 323 (NA j) = (if T.k j = 1 then some (BA (T.h j)) else none) ∧ (¬ T.k j = 2 → m.fR 324 (NA j) = none) ∧ (T.k j = 2 → ∃ ta, m.fR 324 (NA j) = some ta ∧ sp_tv G m R ta (T.h j) (TT (T.h j)))
def sp_cN (G : sp_G) (m : sp_M) (A : Nat → Nat) (R : Int32) (TT : Nat → List Int32) (n : Nat) (T : pu_N) (NA BA : Nat → Nat) : Prop := (∃ e9, sp_li G m (A 9) e9 n ∧ ∀ j, j < n → m.aR e9 j = some (NA j)) ∧ (NA 0 = A 11 ∧ NA 1 = A 12 ∧ NA 2 = A 13 ∧ NA 3 = A 14) ∧ ∀ j, j < n → sp_nd G m R TT T NA BA j
theorem sp_cN.inj {G : sp_G} {m : sp_M} {A : Nat → Nat} {R : Int32} {TT : Nat → List Int32} {n : Nat} {T : pu_N} {NA BA : Nat → Nat} (h : sp_cN G m A R TT n T NA BA) (hn : n ≤ 200) {i j : Nat} (hi : i < n) (hj : j < n) (e : NA i = NA j) : i = j := by
  have h1 := (h.2.2 i hi).2.1
  have h2 := (h.2.2 j hj).2.1
  rw [e] at h1
  exact sp_neq (h1.symm.trans h2) (by omega) (by omega)
/-- up() -/
theorem sp_nd.up {G : sp_G} {m : sp_M} {R : Int32} {TT : Nat → List Int32} {T : pu_N} {NA BA : Nat → Nat} {j : Nat} (h : sp_nd G m R TT T NA BA j) (h0 : T.o 0 = 0) : (if m.fR 321 (NA j) = none then some (NA j) else m.fR 321 (NA j)) = some (NA (T.o j)) := by
  rw [h.2.2.1]
  by_cases q : j = 0
  · subst q
    rw [if_pos rfl, if_pos rfl, h0]
  · rw [if_neg q, if_neg (by simp)]
theorem sp_nd.fld {G : sp_G} {m : sp_M} {R : Int32} {TT : Nat → List Int32} {T : pu_N} {NA BA : Nat → Nat} {j n b t : Nat} (h : sp_nd G m R TT T NA BA j) (hW : pu_W n b t T) (hj : j < n) : (m.fR 323 (NA j) = none ∧ m.fR 324 (NA j) = none) ↔ T.k j = 0 := by
  rw [h.2.2.2.2.2.1]
  rcases hW.2.2.2.1 j hj with q | ⟨q, -⟩ | ⟨q, -⟩
  · rw [if_neg (by rw [q]; decide), h.2.2.2.2.2.2.1 (by rw [q]; decide)]
    exact ⟨fun _ => q, fun _ => ⟨rfl, rfl⟩⟩
  · rw [if_pos q]
    exact ⟨fun z => absurd z.1 (by simp), fun z => by rw [q] at z; exact absurd z (by decide)⟩
  · obtain ⟨ta, r1, -⟩ := h.2.2.2.2.2.2.2 q
    rw [r1]
    exact ⟨fun z => absurd z.2 (by simp), fun z => by rw [q] at z; exact absurd z (by decide)⟩
theorem pu_map_sm {u v : List Int32} : u.map sp_sm = v.map sp_sm ↔ (u.length = v.length ∧ ∀ i, i < u.length → sp_sm (u.getD i 0) = sp_sm (v.getD i 0)) := by
  constructor
  · intro h
    have hl : u.length = v.length := by have := congrArg List.length h; rw [List.length_map, List.length_map] at this; exact this
    refine ⟨hl, fun i hi => ?_⟩
    have hv : i < v.length := by omega
    have q := congrArg (fun z => z[i]?) h
    simp only [List.getElem?_map, List.getElem?_eq_getElem hi, List.getElem?_eq_getElem hv, Option.map_some] at q
    rw [List.getD_eq_getElem?_getD, List.getD_eq_getElem?_getD, List.getElem?_eq_getElem hi, List.getElem?_eq_getElem hv]
    exact Option.some.inj q
  · rintro ⟨hl, hi⟩
    apply List.ext_getElem (by rw [List.length_map, List.length_map]; exact hl)
    intro i h1 h2
    rw [List.length_map] at h1 h2
    have q := hi i h1
    rw [List.getD_eq_getElem?_getD, List.getD_eq_getElem?_getD, List.getElem?_eq_getElem h1, List.getElem?_eq_getElem h2] at q
    rw [List.getElem_map, List.getElem_map]
    exact q
theorem sp_eqA_pu {m : sp_M} {x1 b1 s1 x2 b2 s2 : Nat} {u v : List Int32} (hn1 : sp_nm m x1 b1 s1) (hn2 : sp_nm m x2 b2 s2) (hu : sp_nv m x1 u) (hv : sp_nv m x2 v) : sp_eqA m b1 b2 ↔ u = v := by
  obtain ⟨b9, s9, n1, l1, c1⟩ := hu
  have e1 : b1 = b9 := Option.some.inj (hn1.2.1.symm.trans n1.2.1)
  obtain ⟨b8, s8, n2, l2, c2⟩ := hv
  have e2 : b2 = b8 := Option.some.inj (hn2.2.1.symm.trans n2.2.1)
  rw [e1, e2]
  unfold sp_eqA
  rw [l1, l2]
  constructor
  · rintro ⟨h1, h2⟩
    exact sp_ext h1 (fun i hi => by rw [← c1 i hi, ← c2 i (by omega)]; exact h2 i hi)
  · rintro rfl
    exact ⟨rfl, fun i hi => by rw [c1 i hi, c2 i hi]⟩
theorem sp_eqS_pu {G : sp_G} {P : Nat → Prop} {m : sp_M} {x1 b1 s1 x2 b2 s2 : Nat} {u v : List Int32} (hJ : sp_J G P sp_E0 m) (hn1 : sp_nm m x1 b1 s1) (hn2 : sp_nm m x2 b2 s2) (hu : sp_nv m x1 u) (hv : sp_nv m x2 v) : sp_eqA m s1 s2 ↔ u.map sp_sm = v.map sp_sm := by
  rw [pu_map_sm]
  obtain ⟨b9, s9, n1, l1, c1⟩ := hu
  have e1 : b1 = b9 := Option.some.inj (hn1.2.1.symm.trans n1.2.1)
  obtain ⟨b8, s8, n2, l2, c2⟩ := hv
  have e2 : b2 = b8 := Option.some.inj (hn2.2.1.symm.trans n2.2.1)
  obtain ⟨b7, s7, n3, -, -, k1⟩ := hJ.2.2.2.1 x1 hn1.1 (sp_e0 _)
  have e3 : b1 = b7 := Option.some.inj (hn1.2.1.symm.trans n3.2.1)
  have e4 : s1 = s7 := Option.some.inj (hn1.2.2.1.symm.trans n3.2.2.1)
  obtain ⟨b6, s6, n4, -, -, k2⟩ := hJ.2.2.2.1 x2 hn2.1 (sp_e0 _)
  have e5 : b2 = b6 := Option.some.inj (hn2.2.1.symm.trans n4.2.1)
  have e6 : s2 = s6 := Option.some.inj (hn2.2.2.1.symm.trans n4.2.2.1)
  have m1 : m.ln s1 = u.length := by rw [← hn1.2.2.2.2.2.1, e1]; exact l1
  have m2 : m.ln s2 = v.length := by rw [← hn2.2.2.2.2.2.1, e2]; exact l2
  have d1 : ∀ i, i < u.length → m.aI s1 i = sp_sm (u.getD i 0) := fun i hi => by rw [e4, k1 i (by rw [← e3, e1, l1]; exact hi), ← e3, e1, c1 i hi]
  have d2 : ∀ i, i < v.length → m.aI s2 i = sp_sm (v.getD i 0) := fun i hi => by rw [e6, k2 i (by rw [← e5, e2, l2]; exact hi), ← e5, e2, c2 i hi]
  unfold sp_eqA
  rw [m1, m2]
  constructor
  · rintro ⟨h1, h2⟩
    exact ⟨h1, fun i hi => by rw [← d1 i hi, ← d2 i (by omega)]; exact h2 i hi⟩
  · rintro ⟨h1, h2⟩
    exact ⟨h1, fun i hi => by rw [d1 i hi, d2 i (by omega)]; exact h2 i hi⟩
/-- the folder that a node is in -/
def sp_upn (m : sp_M) (a : Nat) : Option Nat := if m.fR 321 a = none then some a else m.fR 321 a
/-- n folders up -/
def sp_ch (m : sp_M) : Nat → Option Nat → Option Nat
  | 0, r => r
  | n + 1, r => (sp_ch m n r).bind (m.fR 321)
/-- a child of f that isn't GONE -/
def sp_kid (G : sp_G) (m : sp_M) (A : Nat → Nat) (f b : Nat) : Prop := m.ty b = 6 ∧ m.fI 327 b = 0 ∧ sp_upn m b = some f ∧ ∃ ed s j, sp_li G m (A 9) ed s ∧ j < s ∧ m.aR ed j = some b
theorem sp_ch_none (m : sp_M) (r : Option Nat) : ∀ n, sp_ch m n r = none → ∀ k, n ≤ k → sp_ch m k r = none := by
  intro n hn k hk
  induction k with
  | zero => rw [show (0 : Nat) = n by omega]; exact hn
  | succ k ih =>
    rcases Nat.lt_or_ge n (k + 1) with q | q
    · show (sp_ch m k r).bind _ = none
      rw [ih (by omega)]
      rfl
    · rw [show k + 1 = n by omega]; exact hn
set_option maxRecDepth 20000 in
theorem c_Tree_nodeCount (l : Launch) (G : sp_G) (m : sp_M) {A : Nat → Nat} (ht : sp_tr m A) : sp_C l G M_Tree_nodeCount 0 0 [.ref (A 5)] m (sp_oI fun v m' => v = m.fI 2 (A 9) ∧ m' = m) := by
  refine sp_enter (lv0 := [(0, false, va_rf (some (A 5)))]) "SafePaths$Tree" false rfl (by decide) (fun h => by cases h) (Nat.le_of_ble_eq_true rfl) rfl ?_
  intro w X
  obtain ⟨t0, t1, t2, t3, t4, t5, t6, t7, t8, t9, t10, t11, t12, t13, t14, t15, t16⟩ := ht
  refine sp_aload_n X (pc := 0) (r := some (A 5)) dX9_nodeCount_0 rfl rfl ?_
  refine sp_getfield X (pc := 1) (c := 10) (i := 1) (t := 2) (a := (A 5)) (v := va_rf (some (A 9))) rfl (by first | assumption | omega) (by decide) rfl (congrArg va_rf t3) fl_Tree_16 dX9_nodeCount_1 ?_
  refine sp_callV X (pc := 4) (mc := 0) (ms := 0) (b := (A 9)) (c := 0) (r := (some (A 9))) (As := []) (rest := []) (c_List_size l G _ t4) ok_List_size rfl (by first | assumption | omega) (by decide) rfl lk_Tree_72 rfl rfl (Nat.zero_le _) (Nat.le_of_ble_eq_true rfl) (Nat.le_of_ble_eq_true rfl) (Nat.zero_le _) (Nat.zero_le _) dX9_nodeCount_4 (sp_kI fun v4 m4 hp4 => ?_)
  obtain ⟨hp4v, hp4⟩ := hp4; replace hp4 := (hp4).symm; subst hp4; replace hp4v := (hp4v).symm; subst hp4v
  refine sp_ireturn X (pc := 7) dX9_nodeCount_7 rfl ⟨_, rfl, ?_⟩
  first | exact ⟨rfl, rfl⟩ | rfl | (refine ⟨?_, rfl⟩; first | (rw [if_pos (by assumption)]; done) | (rw [if_neg (by assumption)]; done) | (split <;> simp_all; done))
set_option maxRecDepth 20000 in
theorem c_Tree_bodyCount (l : Launch) (G : sp_G) (m : sp_M) {A : Nat → Nat} (ht : sp_tr m A) : sp_C l G M_Tree_bodyCount 0 0 [.ref (A 5)] m (sp_oI fun v m' => v = m.fI 2 (A 10) ∧ m' = m) := by
  refine sp_enter (lv0 := [(0, false, va_rf (some (A 5)))]) "SafePaths$Tree" false rfl (by decide) (fun h => by cases h) (Nat.le_of_ble_eq_true rfl) rfl ?_
  intro w X
  obtain ⟨t0, t1, t2, t3, t4, t5, t6, t7, t8, t9, t10, t11, t12, t13, t14, t15, t16⟩ := ht
  refine sp_aload_n X (pc := 0) (r := some (A 5)) dX9_bodyCount_0 rfl rfl ?_
  refine sp_getfield X (pc := 1) (c := 10) (i := 2) (t := 2) (a := (A 5)) (v := va_rf (some (A 10))) rfl (by first | assumption | omega) (by decide) rfl (congrArg va_rf t6) fl_Tree_20 dX9_bodyCount_1 ?_
  refine sp_callV X (pc := 4) (mc := 0) (ms := 0) (b := (A 10)) (c := 0) (r := (some (A 10))) (As := []) (rest := []) (c_List_size l G _ t7) ok_List_size rfl (by first | assumption | omega) (by decide) rfl lk_Tree_72 rfl rfl (Nat.zero_le _) (Nat.le_of_ble_eq_true rfl) (Nat.le_of_ble_eq_true rfl) (Nat.zero_le _) (Nat.zero_le _) dX9_bodyCount_4 (sp_kI fun v4 m4 hp4 => ?_)
  obtain ⟨hp4v, hp4⟩ := hp4; replace hp4 := (hp4).symm; subst hp4; replace hp4v := (hp4v).symm; subst hp4v
  refine sp_ireturn X (pc := 7) dX9_bodyCount_7 rfl ⟨_, rfl, ?_⟩
  first | exact ⟨rfl, rfl⟩ | rfl | (refine ⟨?_, rfl⟩; first | (rw [if_pos (by assumption)]; done) | (rw [if_neg (by assumption)]; done) | (split <;> simp_all; done))
set_option maxRecDepth 20000 in
theorem c_Tree_at (l : Launch) (G : sp_G) (m : sp_M) {P : Nat → Prop} {A : Nat → Nat} (hJ : sp_J G P sp_E0 m) (ht : sp_tr m A) {i : Int32} : sp_C l G M_Tree_at 0 0 [.ref (A 5), .int i] m (sp_oR fun v m' => (∃ ed s, sp_li G m (A 9) ed s ∧ ((∃ j b, j < s ∧ i = nI j ∧ v = some b ∧ m.aR ed j = some b ∧ m.ty b = 6) ∨ (¬ vp_in i s ∧ v = none))) ∧ m' = m) := by
  refine sp_enter (lv0 := [(0, false, va_rf (some (A 5))), (1, false, .int i)]) "SafePaths$Tree" false rfl (by decide) (fun h => by cases h) (Nat.le_of_ble_eq_true rfl) rfl ?_
  intro w X
  obtain ⟨t0, t1, t2, t3, t4, t5, t6, t7, t8, t9, t10, t11, t12, t13, t14, t15, t16⟩ := ht
  obtain ⟨ed, s, hli, hel6⟩ := hJ.lst t4 t5
  have hsz := hli.2.2.1
  have hs9 : s < 2 ^ 31 := by have := hli.2.2.2.1; have := hli.2.2.2.2.1; omega
  refine sp_iload_n X (pc := 0) (x := i) dX9_at_0 rfl rfl ?_
  refine sp_if_lt X (pc := 1) (tgt := 29) dX9_at_1 (by decide) (fun hb1 => ?_) (fun hb1 => ?_)
  · refine sp_null X (pc := 29) dX9_at_29 ?_
    refine sp_areturn X (pc := 30) (by first | exact Or.inl ⟨_, rfl⟩ | exact Or.inr ⟨_, rfl⟩) dX9_at_30 ⟨_, rfl, ?_⟩
    first
      | exact ⟨⟨ed, s, hli, Or.inl ⟨j, b, hj, rfl, rfl, hb, hbt⟩⟩, rfl⟩
      | exact ⟨⟨ed, s, hli, Or.inr ⟨sp_nin hs9 (Or.inl hb1), rfl⟩⟩, rfl⟩
      | exact ⟨⟨ed, s, hli, Or.inr ⟨sp_nin hs9 (Or.inr hb12), rfl⟩⟩, rfl⟩
  · refine sp_iload_n X (pc := 4) (x := i) dX9_at_4 rfl rfl ?_
    refine sp_aload_n X (pc := 5) (r := some (A 5)) dX9_at_5 rfl rfl ?_
    refine sp_getfield X (pc := 6) (c := 10) (i := 1) (t := 2) (a := (A 5)) (v := va_rf (some (A 9))) rfl (by first | assumption | omega) (by decide) rfl (congrArg va_rf t3) fl_Tree_16 dX9_at_6 ?_
    refine sp_callV X (pc := 9) (mc := 0) (ms := 0) (b := (A 9)) (c := 0) (r := (some (A 9))) (As := []) (rest := [.int i]) (c_List_size l G _ t4) ok_List_size rfl (by first | assumption | omega) (by decide) rfl lk_Tree_72 rfl rfl (by simp [sp_cat_rf, sp_cat_i, sp_cat_l]) (Nat.le_of_ble_eq_true rfl) (Nat.le_of_ble_eq_true rfl) (Nat.zero_le _) (Nat.zero_le _) dX9_at_9 (sp_kI fun v9 m9 hp9 => ?_)
    obtain ⟨hp9v, hp9⟩ := hp9; replace hp9 := (hp9).symm; subst hp9; replace hp9v := (hp9v).symm; subst hp9v
    rw [hsz]
    refine sp_icmp_ge X (pc := 12) (tgt := 29) dX9_at_12 (by decide) (fun hb12 => ?_) (fun hb12 => ?_)
    · refine sp_null X (pc := 29) dX9_at_29 ?_
      refine sp_areturn X (pc := 30) (by first | exact Or.inl ⟨_, rfl⟩ | exact Or.inr ⟨_, rfl⟩) dX9_at_30 ⟨_, rfl, ?_⟩
      first
        | exact ⟨⟨ed, s, hli, Or.inl ⟨j, b, hj, rfl, rfl, hb, hbt⟩⟩, rfl⟩
        | exact ⟨⟨ed, s, hli, Or.inr ⟨sp_nin hs9 (Or.inl hb1), rfl⟩⟩, rfl⟩
        | exact ⟨⟨ed, s, hli, Or.inr ⟨sp_nin hs9 (Or.inr hb12), rfl⟩⟩, rfl⟩
    · obtain ⟨j, hj, hij⟩ := sp_idx hs9 hb1 hb12
      subst hij
      obtain ⟨b, hb, hbt⟩ := hel6 j hj
      refine sp_aload_n X (pc := 15) (r := some (A 5)) dX9_at_15 rfl rfl ?_
      refine sp_getfield X (pc := 16) (c := 10) (i := 1) (t := 2) (a := (A 5)) (v := va_rf (some (A 9))) rfl (by first | assumption | omega) (by decide) rfl (congrArg va_rf t3) fl_Tree_16 dX9_at_16 ?_
      refine sp_iload_n X (pc := 19) (x := nI j) dX9_at_19 rfl rfl ?_
      refine sp_callV X (pc := 20) (mc := 0) (ms := 0) (b := (A 9)) (c := 0) (r := (some (A 9))) (As := [.int (nI j)]) (rest := []) (c_List_get l G _ hli hj) ok_List_get rfl (by first | assumption | omega) (by decide) rfl lk_Tree_76 rfl rfl (Nat.zero_le _) (Nat.le_of_ble_eq_true rfl) (Nat.le_of_ble_eq_true rfl) (Nat.zero_le _) (Nat.zero_le _) dX9_at_20 (sp_kR fun v20 m20 hp20 => ?_)
      obtain ⟨hp20v, hp20⟩ := hp20; replace hp20 := (hp20).symm; subst hp20; replace hp20v := (hp20v).symm; subst hp20v
      rw [hb]
      refine sp_checkcast X (pc := 23) (a := b) (c := 5) rfl (by first | assumption | omega) (by decide) cl_Tree_30 dX9_at_23 ?_
      refine sp_goto X (pc := 26) (tgt := 30) dX9_at_26 (by decide) ?_
      refine sp_areturn X (pc := 30) (by first | exact Or.inl ⟨_, rfl⟩ | exact Or.inr ⟨_, rfl⟩) dX9_at_30 ⟨_, rfl, ?_⟩
      first
        | exact ⟨⟨ed, s, hli, Or.inl ⟨j, b, hj, rfl, rfl, hb, hbt⟩⟩, rfl⟩
        | exact ⟨⟨ed, s, hli, Or.inr ⟨sp_nin hs9 (Or.inl hb1), rfl⟩⟩, rfl⟩
        | exact ⟨⟨ed, s, hli, Or.inr ⟨sp_nin hs9 (Or.inr hb12), rfl⟩⟩, rfl⟩
set_option maxRecDepth 20000 in
theorem c_Tree_bodyAt (l : Launch) (G : sp_G) (m : sp_M) {P : Nat → Prop} {A : Nat → Nat} (hJ : sp_J G P sp_E0 m) (ht : sp_tr m A) {i : Int32} : sp_C l G M_Tree_bodyAt 0 0 [.ref (A 5), .int i] m (sp_oR fun v m' => (∃ ed s, sp_li G m (A 10) ed s ∧ ((∃ j b, j < s ∧ i = nI j ∧ v = some b ∧ m.aR ed j = some b ∧ m.ty b = 2) ∨ (¬ vp_in i s ∧ v = none))) ∧ m' = m) := by
  refine sp_enter (lv0 := [(0, false, va_rf (some (A 5))), (1, false, .int i)]) "SafePaths$Tree" false rfl (by decide) (fun h => by cases h) (Nat.le_of_ble_eq_true rfl) rfl ?_
  intro w X
  obtain ⟨t0, t1, t2, t3, t4, t5, t6, t7, t8, t9, t10, t11, t12, t13, t14, t15, t16⟩ := ht
  obtain ⟨ed, s, hli, hel6⟩ := hJ.lst t7 t8
  have hsz := hli.2.2.1
  have hs9 : s < 2 ^ 31 := by have := hli.2.2.2.1; have := hli.2.2.2.2.1; omega
  refine sp_iload_n X (pc := 0) (x := i) dX9_bodyAt_0 rfl rfl ?_
  refine sp_if_lt X (pc := 1) (tgt := 29) dX9_bodyAt_1 (by decide) (fun hb1 => ?_) (fun hb1 => ?_)
  · refine sp_null X (pc := 29) dX9_bodyAt_29 ?_
    refine sp_areturn X (pc := 30) (by first | exact Or.inl ⟨_, rfl⟩ | exact Or.inr ⟨_, rfl⟩) dX9_bodyAt_30 ⟨_, rfl, ?_⟩
    first
      | exact ⟨⟨ed, s, hli, Or.inl ⟨j, b, hj, rfl, rfl, hb, hbt⟩⟩, rfl⟩
      | exact ⟨⟨ed, s, hli, Or.inr ⟨sp_nin hs9 (Or.inl hb1), rfl⟩⟩, rfl⟩
      | exact ⟨⟨ed, s, hli, Or.inr ⟨sp_nin hs9 (Or.inr hb12), rfl⟩⟩, rfl⟩
  · refine sp_iload_n X (pc := 4) (x := i) dX9_bodyAt_4 rfl rfl ?_
    refine sp_aload_n X (pc := 5) (r := some (A 5)) dX9_bodyAt_5 rfl rfl ?_
    refine sp_getfield X (pc := 6) (c := 10) (i := 2) (t := 2) (a := (A 5)) (v := va_rf (some (A 10))) rfl (by first | assumption | omega) (by decide) rfl (congrArg va_rf t6) fl_Tree_20 dX9_bodyAt_6 ?_
    refine sp_callV X (pc := 9) (mc := 0) (ms := 0) (b := (A 10)) (c := 0) (r := (some (A 10))) (As := []) (rest := [.int i]) (c_List_size l G _ t7) ok_List_size rfl (by first | assumption | omega) (by decide) rfl lk_Tree_72 rfl rfl (by simp [sp_cat_rf, sp_cat_i, sp_cat_l]) (Nat.le_of_ble_eq_true rfl) (Nat.le_of_ble_eq_true rfl) (Nat.zero_le _) (Nat.zero_le _) dX9_bodyAt_9 (sp_kI fun v9 m9 hp9 => ?_)
    obtain ⟨hp9v, hp9⟩ := hp9; replace hp9 := (hp9).symm; subst hp9; replace hp9v := (hp9v).symm; subst hp9v
    rw [hsz]
    refine sp_icmp_ge X (pc := 12) (tgt := 29) dX9_bodyAt_12 (by decide) (fun hb12 => ?_) (fun hb12 => ?_)
    · refine sp_null X (pc := 29) dX9_bodyAt_29 ?_
      refine sp_areturn X (pc := 30) (by first | exact Or.inl ⟨_, rfl⟩ | exact Or.inr ⟨_, rfl⟩) dX9_bodyAt_30 ⟨_, rfl, ?_⟩
      first
        | exact ⟨⟨ed, s, hli, Or.inl ⟨j, b, hj, rfl, rfl, hb, hbt⟩⟩, rfl⟩
        | exact ⟨⟨ed, s, hli, Or.inr ⟨sp_nin hs9 (Or.inl hb1), rfl⟩⟩, rfl⟩
        | exact ⟨⟨ed, s, hli, Or.inr ⟨sp_nin hs9 (Or.inr hb12), rfl⟩⟩, rfl⟩
    · obtain ⟨j, hj, hij⟩ := sp_idx hs9 hb1 hb12
      subst hij
      obtain ⟨b, hb, hbt⟩ := hel6 j hj
      refine sp_aload_n X (pc := 15) (r := some (A 5)) dX9_bodyAt_15 rfl rfl ?_
      refine sp_getfield X (pc := 16) (c := 10) (i := 2) (t := 2) (a := (A 5)) (v := va_rf (some (A 10))) rfl (by first | assumption | omega) (by decide) rfl (congrArg va_rf t6) fl_Tree_20 dX9_bodyAt_16 ?_
      refine sp_iload_n X (pc := 19) (x := nI j) dX9_bodyAt_19 rfl rfl ?_
      refine sp_callV X (pc := 20) (mc := 0) (ms := 0) (b := (A 10)) (c := 0) (r := (some (A 10))) (As := [.int (nI j)]) (rest := []) (c_List_get l G _ hli hj) ok_List_get rfl (by first | assumption | omega) (by decide) rfl lk_Tree_76 rfl rfl (Nat.zero_le _) (Nat.le_of_ble_eq_true rfl) (Nat.le_of_ble_eq_true rfl) (Nat.zero_le _) (Nat.zero_le _) dX9_bodyAt_20 (sp_kR fun v20 m20 hp20 => ?_)
      obtain ⟨hp20v, hp20⟩ := hp20; replace hp20 := (hp20).symm; subst hp20; replace hp20v := (hp20v).symm; subst hp20v
      rw [hb]
      refine sp_checkcast X (pc := 23) (a := b) (c := 1) rfl (by first | assumption | omega) (by decide) cl_Tree_23 dX9_bodyAt_23 ?_
      refine sp_goto X (pc := 26) (tgt := 30) dX9_bodyAt_26 (by decide) ?_
      refine sp_areturn X (pc := 30) (by first | exact Or.inl ⟨_, rfl⟩ | exact Or.inr ⟨_, rfl⟩) dX9_bodyAt_30 ⟨_, rfl, ?_⟩
      first
        | exact ⟨⟨ed, s, hli, Or.inl ⟨j, b, hj, rfl, rfl, hb, hbt⟩⟩, rfl⟩
        | exact ⟨⟨ed, s, hli, Or.inr ⟨sp_nin hs9 (Or.inl hb1), rfl⟩⟩, rfl⟩
        | exact ⟨⟨ed, s, hli, Or.inr ⟨sp_nin hs9 (Or.inr hb12), rfl⟩⟩, rfl⟩
set_option maxRecDepth 20000 in
theorem c_Tree_childOf (l : Launch) (G : sp_G) (m : sp_M) {P : Nat → Prop} {A : Nat → Nat} (hJ : sp_J G P sp_E0 m) (ht : sp_tr m A) {R : Int32} {TT : Nat → List Int32} {n nb0 nt0 : Nat} {T : pu_N} {NA BA : Nat → Nat} (hN : sp_cN G m A R TT n T NA BA) (hW : pu_W n nb0 nt0 T) (hR2 : ¬ m.fI 513 (A 0) = 0 ↔ ¬ sp_hr R 2 = 0) {f nm : Nat} {u : List Int32} (hf : f < n) (hnv : sp_nv m nm u) : sp_C l G M_Tree_childOf 0 0 [.ref (A 5), .ref (NA f), .ref nm] m (sp_oR fun v m' => (∃ o, pu_in R n T f u o ∧ v = o.map NA) ∧ m' = m) := by
  refine sp_enter (lv0 := [(0, false, va_rf (some (A 5))), (1, false, va_rf (some (NA f))), (2, false, va_rf (some nm))]) "SafePaths$Tree" false rfl (by decide) (fun h => by cases h) (Nat.le_of_ble_eq_true rfl) rfl ?_
  intro w X
  obtain ⟨t0, t1, t2, t3, t4, t5, t6, t7, t8, t9, t10, t11, t12, t13, t14, t15, t16⟩ := ht
  obtain ⟨ed, s, hli, hel6⟩ := hJ.lst t4 t5
  have hsz := hli.2.2.1
  have hs9 : s < 2 ^ 31 := by have := hli.2.2.2.1; have := hli.2.2.2.2.1; omega
  obtain ⟨⟨e9, l9, el9⟩, hNA, hND⟩ := id hN
  obtain ⟨hed9, hs99⟩ := sp_sz_fun l9 hli
  subst hed9 hs99
  have h200 := hW.1.2
  obtain ⟨nb1, ns1, hnm, -, -⟩ := id hnv
  refine sp_null X (pc := 0) dX9_childOf_0 ?_
  refine sp_astore_n X (pc := 1) (lv' := [(3, false, va_rf none), (0, false, va_rf (some (A 5))), (1, false, va_rf (some (NA f))), (2, false, va_rf (some nm))]) dX9_childOf_1 rfl (by decide) rfl ?_
  refine sp_iconst X (pc := 2) (v := 0) dX9_childOf_2 (by decide) ?_
  refine sp_istore X (pc := 3) (lv' := [(4, false, .int 0), (3, false, va_rf none), (0, false, va_rf (some (A 5))), (1, false, va_rf (some (NA f))), (2, false, va_rf (some nm))]) dX9_childOf_3  (by decide) rfl ?_
  have loop5 : ∀ (dz : Nat) (i : Nat) (r : Option Nat), i ≤ n → (∀ q, q < i → ¬ pu_sa T n f u q) → ((r = none ∧ (sp_hr R 2 = 0 ∨ ∀ q, q < i → ¬ pu_lk T n f u q)) ∨ ∃ q, r = some (NA q) ∧ ¬ sp_hr R 2 = 0 ∧ pu_lk T n f u q ∧ ∀ z, z < q → ¬ pu_lk T n f u z) → n - i = dz → w 0 0 m 5 [(0, false, va_rf (some (A 5))), (1, false, va_rf (some (NA f))), (2, false, va_rf (some nm)), (3, false, va_rf r), (4, false, .int (nI i))] [] := by
    intro dz
    induction dz using Nat.strongRecOn with
    | ind dz ih =>
      intro i r hi0 hno hr hdz
      refine sp_iload X (pc := 5) (x := nI i) dX9_childOf_5 rfl ?_
      refine sp_aload_n X (pc := 7) (r := some (A 5)) dX9_childOf_7 rfl rfl ?_
      refine sp_getfield X (pc := 8) (c := 10) (i := 1) (t := 2) (a := (A 5)) (v := va_rf (some (A 9))) rfl (by first | assumption | omega) (by decide) rfl (congrArg va_rf t3) fl_Tree_16 dX9_childOf_8 ?_
      refine sp_callV X (pc := 11) (mc := 0) (ms := 0) (b := (A 9)) (c := 0) (r := (some (A 9))) (As := []) (rest := [.int (nI i)]) (c_List_size l G _ t4) ok_List_size rfl (by first | assumption | omega) (by decide) rfl lk_Tree_72 rfl rfl (by simp [sp_cat_rf, sp_cat_i, sp_cat_l]) (Nat.le_of_ble_eq_true rfl) (Nat.le_of_ble_eq_true rfl) (Nat.zero_le _) (Nat.zero_le _) dX9_childOf_11 (sp_kI fun v11 m11 hp11 => ?_)
      obtain ⟨hp11v, hp11⟩ := hp11; replace hp11 := (hp11).symm; subst hp11; replace hp11v := (hp11v).symm; subst hp11v
      rw [hsz]
      refine sp_icmp_ge X (pc := 14) (tgt := 101) dX9_childOf_14 (by decide) (fun hb14 => ?_) (fun hb14 => ?_)
      · have hi : n ≤ i := sp_nge hb14 (by omega) (by omega)
        refine sp_aload_n X (pc := 101) (r := r) dX9_childOf_101 rfl rfl ?_
        refine sp_areturn X (pc := 102) (by first | exact Or.inl ⟨_, rfl⟩ | exact Or.inr ⟨_, rfl⟩) dX9_childOf_102 ⟨_, rfl, ?_⟩
        have hall : ∀ q, ¬ pu_sa T n f u q := fun q z => hno q (by have := z.1; omega) z
        rcases hr with ⟨hr1, hr2⟩ | ⟨q, hr1, hr2, hr3, hr4⟩
        · refine ⟨⟨none, Or.inr (Or.inr ⟨hall, hr2.imp id (fun z q w => z q (by have := w.1; omega) w), rfl⟩), hr1⟩, rfl⟩
        · exact ⟨⟨some q, Or.inr (Or.inl ⟨hall, hr2, q, rfl, hr3, hr4⟩), hr1⟩, rfl⟩
      · have hi : i < n := sp_nlt hb14 (by omega)
        have hb := el9 i hi
        obtain ⟨nd1, nd2, nd3, ⟨nb, hnb, hnbv⟩, ⟨nd4, nd5, nd6⟩, nd7, nd8⟩ := hND i hi
        have hup := (hND i hi).up hW.2.1
        obtain ⟨nbb, nbs, hnmb, -, -⟩ := id hnbv
        refine sp_aload_n X (pc := 17) (r := some (A 5)) dX9_childOf_17 rfl rfl ?_
        refine sp_getfield X (pc := 18) (c := 10) (i := 1) (t := 2) (a := (A 5)) (v := va_rf (some (A 9))) rfl (by first | assumption | omega) (by decide) rfl (congrArg va_rf t3) fl_Tree_16 dX9_childOf_18 ?_
        refine sp_iload X (pc := 21) (x := nI i) dX9_childOf_21 rfl ?_
        refine sp_callV X (pc := 23) (mc := 0) (ms := 0) (b := (A 9)) (c := 0) (r := (some (A 9))) (As := [.int (nI i)]) (rest := []) (c_List_get l G _ hli hi) ok_List_get rfl (by first | assumption | omega) (by decide) rfl lk_Tree_76 rfl rfl (Nat.zero_le _) (Nat.le_of_ble_eq_true rfl) (Nat.le_of_ble_eq_true rfl) (Nat.zero_le _) (Nat.zero_le _) dX9_childOf_23 (sp_kR fun v23 m23 hp23 => ?_)
        obtain ⟨hp23v, hp23⟩ := hp23; replace hp23 := (hp23).symm; subst hp23; replace hp23v := (hp23v).symm; subst hp23v
        rw [hb]
        refine sp_checkcast X (pc := 26) (a := (NA i)) (c := 5) rfl nd1 (by decide) cl_Tree_30 dX9_childOf_26 ?_
        refine sp_astore X (pc := 29) (lv' := [(5, false, va_rf (some (NA i))), (0, false, va_rf (some (A 5))), (1, false, va_rf (some (NA f))), (2, false, va_rf (some nm)), (3, false, va_rf r), (4, false, .int (nI i))]) dX9_childOf_29  (by decide) rfl ?_
        refine sp_aload X (pc := 31) (r := some (NA i)) dX9_childOf_31 rfl ?_
        refine sp_getfield X (pc := 33) (c := 5) (i := 7) (t := 0) (a := (NA i)) (v := .int (m.fI 327 (NA i))) rfl nd1 (by decide) rfl rfl fl_Tree_80 dX9_childOf_33 ?_
        refine sp_if_ne X (pc := 36) (tgt := 95) dX9_childOf_36 (by decide) (fun hb36 => ?_) (fun hb36 => ?_)
        · have hg : ¬ T.g i = 0 := fun z => hb36 (nd6.trans z)
          refine sp_iinc X (pc := 95) (v := nI (i + 1)) (lv' := [(4, false, .int (nI (i + 1))), (5, false, va_rf (some (NA i))), (0, false, va_rf (some (A 5))), (1, false, va_rf (some (NA f))), (2, false, va_rf (some nm)), (3, false, va_rf r)]) dX9_childOf_95 rfl (nI_1 i) (by decide) rfl ?_
          refine sp_goto X (pc := 98) (tgt := 5) dX9_childOf_98 (by decide) ?_
          refine sp_pick X [2, 3, 4, 5, 0] (lv' := [(0, false, va_rf (some (A 5))), (1, false, va_rf (some (NA f))), (2, false, va_rf (some nm)), (3, false, va_rf r), (4, false, .int (nI (i + 1)))]) rfl ?_
          have hno1 : ∀ q, q < i + 1 → ¬ pu_sa T n f u q := fun q hq z => by
            rcases Nat.lt_or_ge q i with w | w
            · exact hno q w z
            · obtain rfl : q = i := by omega
              first | exact hg z.2.1 | exact hof z.2.2.1 | exact hsa z
          first
            | (refine ih (n - (i + 1)) (by omega) (i + 1) r (by omega) hno1 ?_ rfl
               first
                 | (have hkl : ¬ pu_lk T n f u i := fun z => by first | exact hg z.2.1 | exact hof z.2.2.1 | exact hp86.eq hb89 z.2.2.2
                    rcases hr with ⟨hr1, hr2⟩ | hr
                    · refine Or.inl ⟨hr1, hr2.imp id (fun z q hq => ?_)⟩
                      rcases Nat.lt_or_ge q i with w | w
                      · exact z q w
                      · obtain rfl : q = i := by omega
                        exact hkl
                    · exact Or.inr hr)
                 | (rcases hr with ⟨hr1, -⟩ | hr
                    · exact absurd (hb67.symm.trans hr1) (Option.some_ne_none _)
                    · exact Or.inr hr)
                 | (rcases hr with ⟨hr1, -⟩ | hr
                    · exact Or.inl ⟨hr1, Or.inl (Classical.byContradiction fun z => (hR2.mpr z) hb77)⟩
                    · exact Or.inr hr))
            | (refine ih (n - (i + 1)) (by omega) (i + 1) (some (NA i)) (by omega) hno1 ?_ rfl
               rcases hr with ⟨hr1, hr2⟩ | ⟨q, hr1, -⟩
               · refine Or.inr ⟨i, rfl, hR2.mp hb77, ⟨hi, hg, hof, hp86.ne hb89⟩, fun z hz => ?_⟩
                 rcases hr2 with w | w
                 · exact absurd w (hR2.mp hb77)
                 · exact w z hz
               · exact absurd (hb67.symm.trans hr1) (Option.some_ne_none _).symm)
        · have hg : T.g i = 0 := nd6.symm.trans hb36
          refine sp_aload X (pc := 39) (r := some (NA i)) dX9_childOf_39 rfl ?_
          refine sp_callV X (pc := 41) (mc := 0) (ms := 0) (b := (NA i)) (c := 5) (r := some (NA i)) (As := []) (rest := []) (c_Node_up l G _ nd1) ok_Node_up rfl nd1 (by decide) rfl lk_Tree_84 rfl rfl (Nat.zero_le _) (Nat.le_of_ble_eq_true rfl) (Nat.le_of_ble_eq_true rfl) (Nat.zero_le _) (Nat.zero_le _) dX9_childOf_41 (sp_kR fun v41 m41 hp41 => ?_)
          obtain ⟨hp41v, hp41⟩ := hp41; replace hp41 := (hp41).symm; subst hp41; replace hp41v := (hp41v).symm; subst hp41v
          rw [hup]
          refine sp_aload_n X (pc := 44) (r := some (NA f)) dX9_childOf_44 rfl rfl ?_
          refine sp_acmp_eq X (pc := 45) (tgt := 51) dX9_childOf_45 (by decide) (fun hb45 => ?_) (fun hb45 => ?_)
          · have hof : T.o i = f := hN.inj h200 (hW.lt hi) hf (Option.some.inj hb45)
            refine sp_aload X (pc := 51) (r := some (NA i)) dX9_childOf_51 rfl ?_
            refine sp_getfield X (pc := 53) (c := 5) (i := 2) (t := 2) (a := (NA i)) (v := va_rf (some nb)) rfl nd1 (by decide) rfl (congrArg va_rf hnb) fl_Tree_88 dX9_childOf_53 ?_
            refine sp_aload_n X (pc := 56) (r := some nm) dX9_childOf_56 rfl rfl ?_
            refine sp_callV X (pc := 57) (mc := 0) (ms := 0) (b := nb) (c := 4) (r := (some nb)) (As := [va_rf (some nm)]) (rest := []) (c_Name_isSameAs l G _ hnmb hnm) ok_Name_isSameAs rfl hnmb.1 (by decide) rfl lk_Tree_92 rfl rfl (Nat.zero_le _) (Nat.le_of_ble_eq_true rfl) (Nat.le_of_ble_eq_true rfl) (Nat.zero_le _) (Nat.zero_le _) dX9_childOf_57 (sp_kI fun v57 m57 hp57 => ?_)
            obtain ⟨hp57, hp57m⟩ := hp57; replace hp57m := (hp57m).symm; subst hp57m
            rw [propext (sp_eqA_pu hnmb hnm hnbv hnv)] at hp57
            refine sp_if_eq X (pc := 60) (tgt := 66) dX9_childOf_60 (by decide) (fun hb60 => ?_) (fun hb60 => ?_)
            · have hsa : ¬ pu_sa T n f u i := fun z => hp57.eq hb60 z.2.2.2
              refine sp_aload_n X (pc := 66) (r := r) dX9_childOf_66 rfl rfl ?_
              refine sp_ifnonnull X (pc := 67) (tgt := 95) dX9_childOf_67 (by decide) (fun ra67 hb67 => ?_) (fun hb67 => ?_)
              · refine sp_iinc X (pc := 95) (v := nI (i + 1)) (lv' := [(4, false, .int (nI (i + 1))), (5, false, va_rf (some (NA i))), (0, false, va_rf (some (A 5))), (1, false, va_rf (some (NA f))), (2, false, va_rf (some nm)), (3, false, va_rf r)]) dX9_childOf_95 rfl (nI_1 i) (by decide) rfl ?_
                refine sp_goto X (pc := 98) (tgt := 5) dX9_childOf_98 (by decide) ?_
                refine sp_pick X [2, 3, 4, 5, 0] (lv' := [(0, false, va_rf (some (A 5))), (1, false, va_rf (some (NA f))), (2, false, va_rf (some nm)), (3, false, va_rf r), (4, false, .int (nI (i + 1)))]) rfl ?_
                have hno1 : ∀ q, q < i + 1 → ¬ pu_sa T n f u q := fun q hq z => by
                  rcases Nat.lt_or_ge q i with w | w
                  · exact hno q w z
                  · obtain rfl : q = i := by omega
                    first | exact hg z.2.1 | exact hof z.2.2.1 | exact hsa z
                first
                  | (refine ih (n - (i + 1)) (by omega) (i + 1) r (by omega) hno1 ?_ rfl
                     first
                       | (have hkl : ¬ pu_lk T n f u i := fun z => by first | exact hg z.2.1 | exact hof z.2.2.1 | exact hp86.eq hb89 z.2.2.2
                          rcases hr with ⟨hr1, hr2⟩ | hr
                          · refine Or.inl ⟨hr1, hr2.imp id (fun z q hq => ?_)⟩
                            rcases Nat.lt_or_ge q i with w | w
                            · exact z q w
                            · obtain rfl : q = i := by omega
                              exact hkl
                          · exact Or.inr hr)
                       | (rcases hr with ⟨hr1, -⟩ | hr
                          · exact absurd (hb67.symm.trans hr1) (Option.some_ne_none _)
                          · exact Or.inr hr)
                       | (rcases hr with ⟨hr1, -⟩ | hr
                          · exact Or.inl ⟨hr1, Or.inl (Classical.byContradiction fun z => (hR2.mpr z) hb77)⟩
                          · exact Or.inr hr))
                  | (refine ih (n - (i + 1)) (by omega) (i + 1) (some (NA i)) (by omega) hno1 ?_ rfl
                     rcases hr with ⟨hr1, hr2⟩ | ⟨q, hr1, -⟩
                     · refine Or.inr ⟨i, rfl, hR2.mp hb77, ⟨hi, hg, hof, hp86.ne hb89⟩, fun z hz => ?_⟩
                       rcases hr2 with w | w
                       · exact absurd w (hR2.mp hb77)
                       · exact w z hz
                     · exact absurd (hb67.symm.trans hr1) (Option.some_ne_none _).symm)
              · refine sp_aload_n X (pc := 70) (r := some (A 5)) dX9_childOf_70 rfl rfl ?_
                refine sp_getfield X (pc := 71) (c := 10) (i := 0) (t := 2) (a := (A 5)) (v := va_rf (some (A 0))) rfl (by first | assumption | omega) (by decide) rfl (congrArg va_rf t1) fl_Tree_7 dX9_childOf_71 ?_
                refine sp_getfield X (pc := 74) (c := 8) (i := 1) (t := 0) (a := (A 0)) (v := .int (m.fI 513 (A 0))) rfl (by first | assumption | omega) (by decide) rfl rfl fl_Tree_96 dX9_childOf_74 ?_
                refine sp_if_eq X (pc := 77) (tgt := 95) dX9_childOf_77 (by decide) (fun hb77 => ?_) (fun hb77 => ?_)
                · refine sp_iinc X (pc := 95) (v := nI (i + 1)) (lv' := [(4, false, .int (nI (i + 1))), (5, false, va_rf (some (NA i))), (0, false, va_rf (some (A 5))), (1, false, va_rf (some (NA f))), (2, false, va_rf (some nm)), (3, false, va_rf r)]) dX9_childOf_95 rfl (nI_1 i) (by decide) rfl ?_
                  refine sp_goto X (pc := 98) (tgt := 5) dX9_childOf_98 (by decide) ?_
                  refine sp_pick X [2, 3, 4, 5, 0] (lv' := [(0, false, va_rf (some (A 5))), (1, false, va_rf (some (NA f))), (2, false, va_rf (some nm)), (3, false, va_rf r), (4, false, .int (nI (i + 1)))]) rfl ?_
                  have hno1 : ∀ q, q < i + 1 → ¬ pu_sa T n f u q := fun q hq z => by
                    rcases Nat.lt_or_ge q i with w | w
                    · exact hno q w z
                    · obtain rfl : q = i := by omega
                      first | exact hg z.2.1 | exact hof z.2.2.1 | exact hsa z
                  first
                    | (refine ih (n - (i + 1)) (by omega) (i + 1) r (by omega) hno1 ?_ rfl
                       first
                         | (have hkl : ¬ pu_lk T n f u i := fun z => by first | exact hg z.2.1 | exact hof z.2.2.1 | exact hp86.eq hb89 z.2.2.2
                            rcases hr with ⟨hr1, hr2⟩ | hr
                            · refine Or.inl ⟨hr1, hr2.imp id (fun z q hq => ?_)⟩
                              rcases Nat.lt_or_ge q i with w | w
                              · exact z q w
                              · obtain rfl : q = i := by omega
                                exact hkl
                            · exact Or.inr hr)
                         | (rcases hr with ⟨hr1, -⟩ | hr
                            · exact absurd (hb67.symm.trans hr1) (Option.some_ne_none _)
                            · exact Or.inr hr)
                         | (rcases hr with ⟨hr1, -⟩ | hr
                            · exact Or.inl ⟨hr1, Or.inl (Classical.byContradiction fun z => (hR2.mpr z) hb77)⟩
                            · exact Or.inr hr))
                    | (refine ih (n - (i + 1)) (by omega) (i + 1) (some (NA i)) (by omega) hno1 ?_ rfl
                       rcases hr with ⟨hr1, hr2⟩ | ⟨q, hr1, -⟩
                       · refine Or.inr ⟨i, rfl, hR2.mp hb77, ⟨hi, hg, hof, hp86.ne hb89⟩, fun z hz => ?_⟩
                         rcases hr2 with w | w
                         · exact absurd w (hR2.mp hb77)
                         · exact w z hz
                       · exact absurd (hb67.symm.trans hr1) (Option.some_ne_none _).symm)
                · refine sp_aload X (pc := 80) (r := some (NA i)) dX9_childOf_80 rfl ?_
                  refine sp_getfield X (pc := 82) (c := 5) (i := 2) (t := 2) (a := (NA i)) (v := va_rf (some nb)) rfl nd1 (by decide) rfl (congrArg va_rf hnb) fl_Tree_88 dX9_childOf_82 ?_
                  refine sp_aload_n X (pc := 85) (r := some nm) dX9_childOf_85 rfl rfl ?_
                  refine sp_callV X (pc := 86) (mc := 0) (ms := 0) (b := nb) (c := 4) (r := (some nb)) (As := [va_rf (some nm)]) (rest := []) (c_Name_isAlike l G _ hnmb hnm) ok_Name_isAlike rfl hnmb.1 (by decide) rfl lk_Tree_101 rfl rfl (Nat.zero_le _) (Nat.le_of_ble_eq_true rfl) (Nat.le_of_ble_eq_true rfl) (Nat.zero_le _) (Nat.zero_le _) dX9_childOf_86 (sp_kI fun v86 m86 hp86 => ?_)
                  obtain ⟨hp86, hp86m⟩ := hp86; replace hp86m := (hp86m).symm; subst hp86m
                  rw [propext (sp_eqS_pu hJ hnmb hnm hnbv hnv)] at hp86
                  refine sp_if_eq X (pc := 89) (tgt := 95) dX9_childOf_89 (by decide) (fun hb89 => ?_) (fun hb89 => ?_)
                  · refine sp_iinc X (pc := 95) (v := nI (i + 1)) (lv' := [(4, false, .int (nI (i + 1))), (5, false, va_rf (some (NA i))), (0, false, va_rf (some (A 5))), (1, false, va_rf (some (NA f))), (2, false, va_rf (some nm)), (3, false, va_rf r)]) dX9_childOf_95 rfl (nI_1 i) (by decide) rfl ?_
                    refine sp_goto X (pc := 98) (tgt := 5) dX9_childOf_98 (by decide) ?_
                    refine sp_pick X [2, 3, 4, 5, 0] (lv' := [(0, false, va_rf (some (A 5))), (1, false, va_rf (some (NA f))), (2, false, va_rf (some nm)), (3, false, va_rf r), (4, false, .int (nI (i + 1)))]) rfl ?_
                    have hno1 : ∀ q, q < i + 1 → ¬ pu_sa T n f u q := fun q hq z => by
                      rcases Nat.lt_or_ge q i with w | w
                      · exact hno q w z
                      · obtain rfl : q = i := by omega
                        first | exact hg z.2.1 | exact hof z.2.2.1 | exact hsa z
                    first
                      | (refine ih (n - (i + 1)) (by omega) (i + 1) r (by omega) hno1 ?_ rfl
                         first
                           | (have hkl : ¬ pu_lk T n f u i := fun z => by first | exact hg z.2.1 | exact hof z.2.2.1 | exact hp86.eq hb89 z.2.2.2
                              rcases hr with ⟨hr1, hr2⟩ | hr
                              · refine Or.inl ⟨hr1, hr2.imp id (fun z q hq => ?_)⟩
                                rcases Nat.lt_or_ge q i with w | w
                                · exact z q w
                                · obtain rfl : q = i := by omega
                                  exact hkl
                              · exact Or.inr hr)
                           | (rcases hr with ⟨hr1, -⟩ | hr
                              · exact absurd (hb67.symm.trans hr1) (Option.some_ne_none _)
                              · exact Or.inr hr)
                           | (rcases hr with ⟨hr1, -⟩ | hr
                              · exact Or.inl ⟨hr1, Or.inl (Classical.byContradiction fun z => (hR2.mpr z) hb77)⟩
                              · exact Or.inr hr))
                      | (refine ih (n - (i + 1)) (by omega) (i + 1) (some (NA i)) (by omega) hno1 ?_ rfl
                         rcases hr with ⟨hr1, hr2⟩ | ⟨q, hr1, -⟩
                         · refine Or.inr ⟨i, rfl, hR2.mp hb77, ⟨hi, hg, hof, hp86.ne hb89⟩, fun z hz => ?_⟩
                           rcases hr2 with w | w
                           · exact absurd w (hR2.mp hb77)
                           · exact w z hz
                         · exact absurd (hb67.symm.trans hr1) (Option.some_ne_none _).symm)
                  · refine sp_aload X (pc := 92) (r := some (NA i)) dX9_childOf_92 rfl ?_
                    refine sp_astore_n X (pc := 94) (lv' := [(3, false, va_rf (some (NA i))), (5, false, va_rf (some (NA i))), (0, false, va_rf (some (A 5))), (1, false, va_rf (some (NA f))), (2, false, va_rf (some nm)), (4, false, .int (nI i))]) dX9_childOf_94 rfl (by decide) rfl ?_
                    refine sp_iinc X (pc := 95) (v := nI (i + 1)) (lv' := [(4, false, .int (nI (i + 1))), (3, false, va_rf (some (NA i))), (5, false, va_rf (some (NA i))), (0, false, va_rf (some (A 5))), (1, false, va_rf (some (NA f))), (2, false, va_rf (some nm))]) dX9_childOf_95 rfl (nI_1 i) (by decide) rfl ?_
                    refine sp_goto X (pc := 98) (tgt := 5) dX9_childOf_98 (by decide) ?_
                    refine sp_pick X [3, 4, 5, 1, 0] (lv' := [(0, false, va_rf (some (A 5))), (1, false, va_rf (some (NA f))), (2, false, va_rf (some nm)), (3, false, va_rf (some (NA i))), (4, false, .int (nI (i + 1)))]) rfl ?_
                    have hno1 : ∀ q, q < i + 1 → ¬ pu_sa T n f u q := fun q hq z => by
                      rcases Nat.lt_or_ge q i with w | w
                      · exact hno q w z
                      · obtain rfl : q = i := by omega
                        first | exact hg z.2.1 | exact hof z.2.2.1 | exact hsa z
                    first
                      | (refine ih (n - (i + 1)) (by omega) (i + 1) some (NA i) (by omega) hno1 ?_ rfl
                         first
                           | (have hkl : ¬ pu_lk T n f u i := fun z => by first | exact hg z.2.1 | exact hof z.2.2.1 | exact hp86.eq hb89 z.2.2.2
                              rcases hr with ⟨hr1, hr2⟩ | hr
                              · refine Or.inl ⟨hr1, hr2.imp id (fun z q hq => ?_)⟩
                                rcases Nat.lt_or_ge q i with w | w
                                · exact z q w
                                · obtain rfl : q = i := by omega
                                  exact hkl
                              · exact Or.inr hr)
                           | (rcases hr with ⟨hr1, -⟩ | hr
                              · exact absurd (hb67.symm.trans hr1) (Option.some_ne_none _)
                              · exact Or.inr hr)
                           | (rcases hr with ⟨hr1, -⟩ | hr
                              · exact Or.inl ⟨hr1, Or.inl (Classical.byContradiction fun z => (hR2.mpr z) hb77)⟩
                              · exact Or.inr hr))
                      | (refine ih (n - (i + 1)) (by omega) (i + 1) (some (NA i)) (by omega) hno1 ?_ rfl
                         rcases hr with ⟨hr1, hr2⟩ | ⟨q, hr1, -⟩
                         · refine Or.inr ⟨i, rfl, hR2.mp hb77, ⟨hi, hg, hof, hp86.ne hb89⟩, fun z hz => ?_⟩
                           rcases hr2 with w | w
                           · exact absurd w (hR2.mp hb77)
                           · exact w z hz
                         · exact absurd (hb67.symm.trans hr1) (Option.some_ne_none _).symm)
            · have hsa : pu_sa T n f u i := ⟨hi, hg, hof, hp57.ne hb60⟩
              refine sp_aload X (pc := 63) (r := some (NA i)) dX9_childOf_63 rfl ?_
              refine sp_areturn X (pc := 65) (by first | exact Or.inl ⟨_, rfl⟩ | exact Or.inr ⟨_, rfl⟩) dX9_childOf_65 ⟨_, rfl, ?_⟩
              exact ⟨⟨some i, Or.inl ⟨i, rfl, hsa, hno⟩, rfl⟩, rfl⟩
          · have hof : ¬ T.o i = f := fun z => hb45 (by rw [z])
            refine sp_goto X (pc := 48) (tgt := 95) dX9_childOf_48 (by decide) ?_
            refine sp_iinc X (pc := 95) (v := nI (i + 1)) (lv' := [(4, false, .int (nI (i + 1))), (5, false, va_rf (some (NA i))), (0, false, va_rf (some (A 5))), (1, false, va_rf (some (NA f))), (2, false, va_rf (some nm)), (3, false, va_rf r)]) dX9_childOf_95 rfl (nI_1 i) (by decide) rfl ?_
            refine sp_goto X (pc := 98) (tgt := 5) dX9_childOf_98 (by decide) ?_
            refine sp_pick X [2, 3, 4, 5, 0] (lv' := [(0, false, va_rf (some (A 5))), (1, false, va_rf (some (NA f))), (2, false, va_rf (some nm)), (3, false, va_rf r), (4, false, .int (nI (i + 1)))]) rfl ?_
            have hno1 : ∀ q, q < i + 1 → ¬ pu_sa T n f u q := fun q hq z => by
              rcases Nat.lt_or_ge q i with w | w
              · exact hno q w z
              · obtain rfl : q = i := by omega
                first | exact hg z.2.1 | exact hof z.2.2.1 | exact hsa z
            first
              | (refine ih (n - (i + 1)) (by omega) (i + 1) r (by omega) hno1 ?_ rfl
                 first
                   | (have hkl : ¬ pu_lk T n f u i := fun z => by first | exact hg z.2.1 | exact hof z.2.2.1 | exact hp86.eq hb89 z.2.2.2
                      rcases hr with ⟨hr1, hr2⟩ | hr
                      · refine Or.inl ⟨hr1, hr2.imp id (fun z q hq => ?_)⟩
                        rcases Nat.lt_or_ge q i with w | w
                        · exact z q w
                        · obtain rfl : q = i := by omega
                          exact hkl
                      · exact Or.inr hr)
                   | (rcases hr with ⟨hr1, -⟩ | hr
                      · exact absurd (hb67.symm.trans hr1) (Option.some_ne_none _)
                      · exact Or.inr hr)
                   | (rcases hr with ⟨hr1, -⟩ | hr
                      · exact Or.inl ⟨hr1, Or.inl (Classical.byContradiction fun z => (hR2.mpr z) hb77)⟩
                      · exact Or.inr hr))
              | (refine ih (n - (i + 1)) (by omega) (i + 1) (some (NA i)) (by omega) hno1 ?_ rfl
                 rcases hr with ⟨hr1, hr2⟩ | ⟨q, hr1, -⟩
                 · refine Or.inr ⟨i, rfl, hR2.mp hb77, ⟨hi, hg, hof, hp86.ne hb89⟩, fun z hz => ?_⟩
                   rcases hr2 with w | w
                   · exact absurd w (hR2.mp hb77)
                   · exact w z hz
                 · exact absurd (hb67.symm.trans hr1) (Option.some_ne_none _).symm)
  refine sp_pick X [2, 3, 4, 1, 0] (lv' := [(0, false, va_rf (some (A 5))), (1, false, va_rf (some (NA f))), (2, false, va_rf (some nm)), (3, false, va_rf none), (4, false, .int 0)]) rfl ?_
  exact loop5 _ 0 none (Nat.zero_le _) (fun q z => absurd z (Nat.not_lt_zero _)) (Or.inl ⟨rfl, Or.inr (fun q z => absurd z (Nat.not_lt_zero _))⟩) rfl
set_option maxRecDepth 20000 in
theorem c_Tree_isOutside (l : Launch) (G : sp_G) (m : sp_M) {P : Nat → Prop} {A : Nat → Nat} (hJ : sp_J G P sp_E0 m) (ht : sp_tr m A) {R : Int32} {TT : Nat → List Int32} {n nb0 nt0 : Nat} {T : pu_N} {NA BA : Nat → Nat} (hN : sp_cN G m A R TT n T NA BA) (hW : pu_W n nb0 nt0 T) {f : Nat} (hf : f < n) : sp_C l G M_Tree_isOutside 0 0 [.ref (A 5), .ref (NA f)] m (sp_oI fun v m' => sp_bo v (¬ pu_ins T.o f) ∧ m' = m) := by
  refine sp_enter (lv0 := [(0, false, va_rf (some (A 5))), (1, false, va_rf (some (NA f)))]) "SafePaths$Tree" false rfl (by decide) (fun h => by cases h) (Nat.le_of_ble_eq_true rfl) rfl ?_
  intro w X
  obtain ⟨t0, t1, t2, t3, t4, t5, t6, t7, t8, t9, t10, t11, t12, t13, t14, t15, t16⟩ := ht
  obtain ⟨ed, s, hli, hel6⟩ := hJ.lst t4 t5
  have hsz := hli.2.2.1
  have hs9 : s < 2 ^ 31 := by have := hli.2.2.2.1; have := hli.2.2.2.2.1; omega
  obtain ⟨⟨e9, l9, el9⟩, hNA, hND⟩ := id hN
  obtain ⟨hed9, hs99⟩ := sp_sz_fun l9 hli
  subst hed9 hs99
  have h200 := hW.1.2
  refine sp_aload_n X (pc := 0) (r := some (NA f)) dX9_isOutside_0 rfl rfl ?_
  refine sp_astore_n X (pc := 1) (lv' := [(2, false, va_rf (some (NA f))), (0, false, va_rf (some (A 5))), (1, false, va_rf (some (NA f)))]) dX9_isOutside_1 rfl (by decide) rfl ?_
  have loop2 : ∀ (dz : Nat) (q9 : Option Nat), (∀ j9, q9 = some j9 → j9 < n) → (pu_ins T.o f ↔ ∃ j9, q9 = some j9 ∧ pu_ins T.o j9) → (q9.map (fun x => x + 1)).getD 0 = dz → w 0 0 m 2 [(0, false, va_rf (some (A 5))), (2, false, va_rf (q9.map NA))] [] := by
    intro dz
    induction dz using Nat.strongRecOn with
    | ind dz ih =>
      intro q9 hqn9 hqi hdz
      refine sp_aload_n X (pc := 2) (r := (q9.map NA)) dX9_isOutside_2 rfl rfl ?_
      refine sp_ifnull X (pc := 3) (tgt := 24) dX9_isOutside_3 (by decide) (fun hb3 => ?_) (fun ra3 hb3 => ?_)
      · have hqn : q9 = none := by
          cases q9 with
          | none => rfl
          | some j9 => cases hb3
        refine sp_iconst X (pc := 24) (v := 1) dX9_isOutside_24 (by decide) ?_
        refine sp_ireturn X (pc := 25) dX9_isOutside_25 rfl ⟨_, rfl, ?_⟩
        refine ⟨sp_bo.t (fun z => ?_), rfl⟩
        obtain ⟨j8, e, -⟩ := hqi.mp z
        rw [hqn] at e
        cases e
      · obtain ⟨j9, hj9⟩ : ∃ j9, q9 = some j9 := by
          cases q9 with
          | none => cases hb3
          | some j9 => exact ⟨j9, rfl⟩
        subst hj9
        have hjn := hqn9 j9 rfl
        obtain rfl : NA j9 = ra3 := Option.some.inj hb3
        obtain ⟨nd1, nd2, nd3, -⟩ := hND j9 hjn
        refine sp_aload_n X (pc := 6) (r := (some (NA j9))) dX9_isOutside_6 rfl rfl ?_
        refine sp_aload_n X (pc := 7) (r := some (A 5)) dX9_isOutside_7 rfl rfl ?_
        refine sp_getfield X (pc := 8) (c := 10) (i := 4) (t := 2) (a := (A 5)) (v := va_rf (some (A 12))) rfl (by first | assumption | omega) (by decide) rfl (congrArg va_rf t11) fl_Tree_53 dX9_isOutside_8 ?_
        refine sp_acmp_ne X (pc := 11) (tgt := 16) dX9_isOutside_11 (by decide) (fun hb11 => ?_) (fun hb11 => ?_)
        · have hj1 : j9 ≠ 1 := fun z => hb11 (by rw [z, hNA.2.1])
          refine sp_aload_n X (pc := 16) (r := (some (NA j9))) dX9_isOutside_16 rfl rfl ?_
          obtain ⟨q8, hq8, hq8n, hq8i, hq8m⟩ : ∃ q8 : Option Nat, m.fR 321 (NA j9) = q8.map NA ∧ (∀ j8, q8 = some j8 → j8 < n) ∧ ((∃ j8, q8 = some j8 ∧ pu_ins T.o j8) ↔ pu_ins T.o j9) ∧ (q8.map (fun x => x + 1)).getD 0 < j9 + 1 := by
            by_cases z0 : j9 = 0
            · refine ⟨none, by rw [nd3, if_pos z0]; rfl, fun j8 e => (by cases e), ⟨fun z => (by obtain ⟨j8, e, -⟩ := z; cases e), fun z => absurd z (by rw [z0]; exact pu_ins.zero hW.2.1)⟩, Nat.succ_pos _⟩
            · have hlt := hW.2.2.1 j9 (by omega) hjn
              refine ⟨some (T.o j9), by rw [nd3, if_neg z0]; rfl, fun j8 e => by cases e; omega, ⟨fun z => by obtain ⟨j8, e, w⟩ := z; cases e; exact (pu_ins.step hj1).mpr w, fun z => ⟨_, rfl, (pu_ins.step hj1).mp z⟩⟩, by show T.o j9 + 1 < j9 + 1; omega⟩
          refine sp_getfield X (pc := 17) (c := 5) (i := 1) (t := 2) (a := (NA j9)) (v := va_rf (q8.map NA)) rfl nd1 (by decide) rfl (congrArg va_rf hq8) fl_Tree_121 dX9_isOutside_17 ?_
          refine sp_astore_n X (pc := 20) (lv' := [(2, false, va_rf (q8.map NA)), (0, false, va_rf (some (A 5)))]) dX9_isOutside_20 rfl (by decide) rfl ?_
          refine sp_goto X (pc := 21) (tgt := 2) dX9_isOutside_21 (by decide) ?_
          refine sp_pick X [1, 0] (lv' := [(0, false, va_rf (some (A 5))), (2, false, va_rf (q8.map NA))]) rfl ?_
          refine ih _ ?_ q8 hq8n ?_ rfl
          · rw [← hdz]; exact hq8m
          · rw [hqi]
            constructor
            · rintro ⟨j8, e, w⟩
              cases e
              exact hq8i.mpr w
            · intro z
              exact ⟨j9, rfl, hq8i.mp z⟩
        · have hj1 : j9 = 1 := hN.inj h200 hjn (by have := hW.1.1; omega) (by rw [hNA.2.1]; exact Option.some.inj hb11)
          refine sp_iconst X (pc := 14) (v := 0) dX9_isOutside_14 (by decide) ?_
          refine sp_ireturn X (pc := 15) dX9_isOutside_15 rfl ⟨_, rfl, ?_⟩
          exact ⟨sp_bo.f (fun z => z (hqi.mpr ⟨1, by rw [hj1], pu_ins.one _⟩)), rfl⟩
  refine sp_pick X [1, 0] (lv' := [(0, false, va_rf (some (A 5))), (2, false, va_rf (some (NA f)))]) rfl ?_
  exact loop2 _ (some f) (fun j9 e => by cases e; exact hf) ⟨fun z => ⟨f, rfl, z⟩, fun z => by obtain ⟨j9, e, w⟩ := z; cases e; exact w⟩ rfl
set_option maxRecDepth 20000 in
theorem c_Tree_reach (l : Launch) (G : sp_G) (m : sp_M) {P : Nat → Prop} {A : Nat → Nat} (hJ : sp_J G P sp_E0 m) (ht : sp_tr m A) {R : Int32} {TT : Nat → List Int32} {n nb0 nt0 : Nat} {T : pu_N} {NA BA : Nat → Nat} (hN : sp_cN G m A R TT n T NA BA) (hW : pu_W n nb0 nt0 T) (hR2 : ¬ m.fI 513 (A 0) = 0 ↔ ¬ sp_hr R 2 = 0) {pa L0 ed0 s0 num : Nat} {us : List (List Int32)} {fl : Int32} (hp : sp_pt G m pa L0 ed0 s0) (hpv : sp_pv G m pa num us) : sp_C l G M_Tree_reach 0 0 [.ref (A 5), .ref pa, .int fl] m (sp_oR fun v m' => (∃ o, pu_rc R n T (¬ fl = 0) 1 us o ∧ (∀ j, o = some j → j < n) ∧ v = o.map NA) ∧ m' = m) := by
  refine sp_enter (lv0 := [(0, false, va_rf (some (A 5))), (1, false, va_rf (some pa)), (2, false, .int fl)]) "SafePaths$Tree" false rfl (by decide) (fun h => by cases h) (Nat.le_of_ble_eq_true rfl) rfl ?_
  intro w X
  have htr := ht
  obtain ⟨t0, t1, t2, t3, t4, t5, t6, t7, t8, t9, t10, t11, t12, t13, t14, t15, t16⟩ := ht
  obtain ⟨ed, s, hli, hel6⟩ := hJ.lst t4 t5
  have hsz := hli.2.2.1
  have hs9 : s < 2 ^ 31 := by have := hli.2.2.2.1; have := hli.2.2.2.2.1; omega
  obtain ⟨⟨e9, l9, el9⟩, hNA, hND⟩ := id hN
  obtain ⟨hed9, hs99⟩ := sp_sz_fun l9 hli
  subst hed9 hs99
  have h200 := hW.1.2
  have hpt := hp.1
  have hs0 : s0 < 2 ^ 31 := by have := hp.2.2.2.2.2.1; have := hp.2.2.2.2.2.2; omega
  obtain ⟨hs1, hel1, -⟩ := hpv.pt hp
  refine sp_aload_n X (pc := 0) (r := some (A 5)) dX9_reach_0 rfl rfl ?_
  refine sp_getfield X (pc := 1) (c := 10) (i := 4) (t := 2) (a := (A 5)) (v := va_rf (some (A 12))) rfl (by first | assumption | omega) (by decide) rfl (congrArg va_rf t11) fl_Tree_53 dX9_reach_1 ?_
  refine sp_astore_n X (pc := 4) (lv' := [(3, false, va_rf (some (A 12))), (0, false, va_rf (some (A 5))), (1, false, va_rf (some pa)), (2, false, .int fl)]) dX9_reach_4 rfl (by decide) rfl ?_
  refine sp_iconst X (pc := 5) (v := 0) dX9_reach_5 (by decide) ?_
  refine sp_istore X (pc := 6) (lv' := [(4, false, .int 0), (3, false, va_rf (some (A 12))), (0, false, va_rf (some (A 5))), (1, false, va_rf (some pa)), (2, false, .int fl)]) dX9_reach_6  (by decide) rfl ?_
  have loop8 : ∀ (dz : Nat) (i j9 : Nat), i ≤ s0 → j9 < n → (∀ o, pu_rc R n T (¬ fl = 0) j9 (us.drop i) o → pu_rc R n T (¬ fl = 0) 1 us o) → s0 - i = dz → w 0 0 m 8 [(0, false, va_rf (some (A 5))), (1, false, va_rf (some pa)), (2, false, .int fl), (3, false, va_rf (some (NA j9))), (4, false, .int (nI i))] [] := by
    intro dz
    induction dz using Nat.strongRecOn with
    | ind dz ih =>
      intro i j9 hi0 hj9 hrc hdz
      refine sp_iload X (pc := 8) (x := nI i) dX9_reach_8 rfl ?_
      refine sp_aload_n X (pc := 10) (r := some pa) dX9_reach_10 rfl rfl ?_
      refine sp_callV X (pc := 11) (mc := 0) (ms := 0) (b := pa) (c := 7) (r := some pa) (As := []) (rest := [.int (nI i)]) (c_Parted_count l G _ hp) ok_Parted_count rfl (by first | assumption | omega) (by decide) rfl lk_Tree_104 rfl rfl (by simp [sp_cat_rf, sp_cat_i, sp_cat_l]) (Nat.le_of_ble_eq_true rfl) (Nat.le_of_ble_eq_true rfl) (Nat.zero_le _) (Nat.zero_le _) dX9_reach_11 (sp_kI fun v11 m11 hp11 => ?_)
      obtain ⟨hp11v, hp11⟩ := hp11; replace hp11 := (hp11).symm; subst hp11; replace hp11v := (hp11v).symm; subst hp11v
      refine sp_icmp_ge X (pc := 14) (tgt := 76) dX9_reach_14 (by decide) (fun hb14 => ?_) (fun hb14 => ?_)
      · have hi : s0 ≤ i := sp_nge hb14 (by omega) (by omega)
        refine sp_aload_n X (pc := 76) (r := some (NA j9)) dX9_reach_76 rfl rfl ?_
        refine sp_areturn X (pc := 77) (by first | exact Or.inl ⟨_, rfl⟩ | exact Or.inr ⟨_, rfl⟩) dX9_reach_77 ⟨_, rfl, ?_⟩
        exact ⟨⟨some j9, hrc _ (by rw [List.drop_eq_nil_of_le (by omega)]; rfl), fun j e => by cases e; exact hj9, rfl⟩, rfl⟩
      · have hi : i < s0 := sp_nlt hb14 (by omega)
        have hdr : us.drop i = us.getD i [] :: us.drop (i + 1) := by
          rw [List.getD_eq_getElem?_getD, List.getElem?_eq_getElem (by omega)]
          exact List.drop_eq_getElem_cons (by omega)
        obtain ⟨nm1, hnm1, hnv1⟩ := hel1 i hi
        have hfd := (hND j9 hj9).fld hW hj9
        refine sp_aload_n X (pc := 17) (r := some (NA j9)) dX9_reach_17 rfl rfl ?_
        refine sp_callV X (pc := 18) (mc := 0) (ms := 0) (b := (NA j9)) (c := 5) (r := some (NA j9)) (As := []) (rest := []) (c_Node_isFolder l G _ (hND j9 hj9).1) ok_Node_isFolder rfl (hND j9 hj9).1 (by decide) rfl lk_Tree_109 rfl rfl (Nat.zero_le _) (Nat.le_of_ble_eq_true rfl) (Nat.le_of_ble_eq_true rfl) (Nat.zero_le _) (Nat.zero_le _) dX9_reach_18 (sp_kI fun v18 m18 hp18 => ?_)
        obtain ⟨hp18v, hp18⟩ := hp18; replace hp18 := (hp18).symm; subst hp18; replace hp18v := (hp18v).symm; subst hp18v
        refine sp_if_ne X (pc := 21) (tgt := 26) dX9_reach_21 (by decide) (fun hb21 => ?_) (fun hb21 => ?_)
        · have hk0 : T.k j9 = 0 := hfd.mp (Classical.byContradiction fun z => hb21 (if_neg z))
          refine sp_aload_n X (pc := 26) (r := some (A 5)) dX9_reach_26 rfl rfl ?_
          refine sp_aload_n X (pc := 27) (r := some (NA j9)) dX9_reach_27 rfl rfl ?_
          refine sp_aload_n X (pc := 28) (r := some pa) dX9_reach_28 rfl rfl ?_
          refine sp_iload X (pc := 29) (x := nI i) dX9_reach_29 rfl ?_
          refine sp_callV X (pc := 31) (mc := 0) (ms := 0) (b := pa) (c := 7) (r := some pa) (As := [.int (nI i)]) (rest := [va_rf (some (NA j9)), va_rf (some (A 5))]) (c_Parted_at l G _ hp) ok_Parted_at rfl (by first | assumption | omega) (by decide) rfl lk_Tree_113 rfl rfl (by simp [sp_cat_rf, sp_cat_i, sp_cat_l]) (Nat.le_of_ble_eq_true rfl) (Nat.le_of_ble_eq_true rfl) (Nat.zero_le _) (Nat.zero_le _) dX9_reach_31 (sp_kR fun v31 m31 hp31 => ?_)
          obtain ⟨hp31, hp31m⟩ := hp31; replace hp31m := (hp31m).symm; subst hp31m
          obtain ⟨nm0, hnm0, hnmt, hk1, -⟩ := hp31
          have e31 : nm0 = nm1 := Option.some.inj ((hk1 i hi rfl).symm.trans hnm1)
          rw [e31] at hnm0
          subst hnm0
          refine sp_callV X (pc := 34) (mc := 0) (ms := 0) (b := (A 5)) (c := 10) (r := some (A 5)) (As := [va_rf (some (NA j9)), va_rf (some nm1)]) (rest := []) (c_Tree_childOf l G _ hJ htr hN hW hR2 hj9 hnv1) ok_Tree_childOf rfl (by first | assumption | omega) (by decide) rfl lk_Tree_117 rfl rfl (Nat.zero_le _) (Nat.le_of_ble_eq_true rfl) (Nat.le_of_ble_eq_true rfl) (Nat.zero_le _) (Nat.zero_le _) dX9_reach_34 (sp_kR fun v34 m34 hp34 => ?_)
          obtain ⟨hp34, hp34m⟩ := hp34; replace hp34m := (hp34m).symm; subst hp34m
          obtain ⟨o9, ho9, hv34⟩ := hp34
          refine sp_astore X (pc := 37) (lv' := [(5, false, va_rf v34), (0, false, va_rf (some (A 5))), (1, false, va_rf (some pa)), (2, false, .int fl), (3, false, va_rf (some (NA j9))), (4, false, .int (nI i))]) dX9_reach_37  (by decide) rfl ?_
          refine sp_aload X (pc := 39) (r := v34) dX9_reach_39 rfl ?_
          refine sp_ifnull X (pc := 41) (tgt := 65) dX9_reach_41 (by decide) (fun hb41 => ?_) (fun ra41 hb41 => ?_)
          · have hon : o9 = none := by
              cases o9 with
              | none => rfl
              | some k9 => rw [hv34] at hb41; cases hb41
            refine sp_null X (pc := 65) dX9_reach_65 ?_
            refine sp_areturn X (pc := 66) (by first | exact Or.inl ⟨_, rfl⟩ | exact Or.inr ⟨_, rfl⟩) dX9_reach_66 ⟨_, rfl, ?_⟩
            first
              | exact ⟨⟨none, hrc _ (by rw [hdr]; exact Or.inr ⟨hk0, Or.inl ⟨by rw [← hon]; exact ho9, rfl⟩⟩), fun j e => (by cases e), rfl⟩, rfl⟩
              | exact ⟨⟨none, hrc _ (by rw [hdr]; exact Or.inr ⟨hk0, Or.inr ⟨k9, ho9, Or.inl ⟨hb45, hp59.eq hb62, rfl⟩⟩⟩), fun j e => (by cases e), rfl⟩, rfl⟩
          · obtain ⟨k9, hk9⟩ : ∃ k9, o9 = some k9 := by
              cases o9 with
              | none => rw [hv34] at hb41; cases hb41
              | some k9 => exact ⟨k9, rfl⟩
            subst hk9
            have hkn := ho9.lt.1
            have hra : ra41 = NA k9 := by rw [hv34] at hb41; exact (Option.some.inj hb41).symm
            subst hra
            subst hb41
            obtain ⟨kd1, -, -, ⟨nb, hnb, hnbv⟩, -⟩ := hND k9 hkn
            obtain ⟨nbb, nbs, hnmb, -, -⟩ := id hnbv
            refine sp_iload_n X (pc := 44) (x := fl) dX9_reach_44 rfl rfl ?_
            refine sp_if_eq X (pc := 45) (tgt := 67) dX9_reach_45 (by decide) (fun hb45 => ?_) (fun hb45 => ?_)
            · refine sp_aload X (pc := 67) (r := (some (NA k9))) dX9_reach_67 rfl ?_
              refine sp_astore_n X (pc := 69) (lv' := [(3, false, va_rf (some (NA k9))), (5, false, va_rf (some (NA k9))), (0, false, va_rf (some (A 5))), (1, false, va_rf (some pa)), (2, false, .int fl), (4, false, .int (nI i))]) dX9_reach_69 rfl (by decide) rfl ?_
              refine sp_iinc X (pc := 70) (v := nI (i + 1)) (lv' := [(4, false, .int (nI (i + 1))), (3, false, va_rf (some (NA k9))), (5, false, va_rf (some (NA k9))), (0, false, va_rf (some (A 5))), (1, false, va_rf (some pa)), (2, false, .int fl)]) dX9_reach_70 rfl (nI_1 i) (by decide) rfl ?_
              refine sp_goto X (pc := 73) (tgt := 8) dX9_reach_73 (by decide) ?_
              refine sp_pick X [3, 4, 5, 1, 0] (lv' := [(0, false, va_rf (some (A 5))), (1, false, va_rf (some pa)), (2, false, .int fl), (3, false, va_rf (some (NA k9))), (4, false, .int (nI (i + 1)))]) rfl ?_
              have hle : ¬ (¬ fl = 0 ∧ ¬ T.w k9 = us.getD i []) := by
                first | exact fun z => z.1 hb45 | exact fun z => z.2 (hp59.ne hb62)
              exact ih (s0 - (i + 1)) (by omega) (i + 1) k9 (by omega) hkn (fun o z => hrc o (by rw [hdr]; exact Or.inr ⟨hk0, Or.inr ⟨k9, ho9, Or.inr ⟨hle, z⟩⟩⟩)) rfl
            · refine sp_aload X (pc := 48) (r := (some (NA k9))) dX9_reach_48 rfl ?_
              refine sp_getfield X (pc := 50) (c := 5) (i := 2) (t := 2) (a := (NA k9)) (v := va_rf (some nb)) rfl kd1 (by decide) rfl (congrArg va_rf hnb) fl_Tree_88 dX9_reach_50 ?_
              refine sp_aload_n X (pc := 53) (r := some pa) dX9_reach_53 rfl rfl ?_
              refine sp_iload X (pc := 54) (x := nI i) dX9_reach_54 rfl ?_
              refine sp_callV X (pc := 56) (mc := 0) (ms := 0) (b := pa) (c := 7) (r := some pa) (As := [.int (nI i)]) (rest := [va_rf (some nb)]) (c_Parted_at l G _ hp) ok_Parted_at rfl (by first | assumption | omega) (by decide) rfl lk_Tree_113 rfl rfl (by simp [sp_cat_rf, sp_cat_i, sp_cat_l]) (Nat.le_of_ble_eq_true rfl) (Nat.le_of_ble_eq_true rfl) (Nat.zero_le _) (Nat.zero_le _) dX9_reach_56 (sp_kR fun v56 m56 hp56 => ?_)
              obtain ⟨hp56, hp56m⟩ := hp56; replace hp56m := (hp56m).symm; subst hp56m
              obtain ⟨nm0, hnm0, hnmt2, hk2, -⟩ := hp56
              have e56 : nm0 = nm1 := Option.some.inj ((hk2 i hi rfl).symm.trans hnm1)
              rw [e56] at hnm0
              subst hnm0
              obtain ⟨nm2b, nm2s, hnm2, -, -⟩ := id hnv1
              refine sp_callV X (pc := 59) (mc := 0) (ms := 0) (b := nb) (c := 4) (r := (some nb)) (As := [va_rf (some nm1)]) (rest := []) (c_Name_isSameAs l G _ hnmb hnm2) ok_Name_isSameAs rfl hnmb.1 (by decide) rfl lk_Tree_92 rfl rfl (Nat.zero_le _) (Nat.le_of_ble_eq_true rfl) (Nat.le_of_ble_eq_true rfl) (Nat.zero_le _) (Nat.zero_le _) dX9_reach_59 (sp_kI fun v59 m59 hp59 => ?_)
              obtain ⟨hp59, hp59m⟩ := hp59; replace hp59m := (hp59m).symm; subst hp59m
              rw [propext (sp_eqA_pu hnmb hnm2 hnbv hnv1)] at hp59
              refine sp_if_ne X (pc := 62) (tgt := 67) dX9_reach_62 (by decide) (fun hb62 => ?_) (fun hb62 => ?_)
              · refine sp_aload X (pc := 67) (r := (some (NA k9))) dX9_reach_67 rfl ?_
                refine sp_astore_n X (pc := 69) (lv' := [(3, false, va_rf (some (NA k9))), (5, false, va_rf (some (NA k9))), (0, false, va_rf (some (A 5))), (1, false, va_rf (some pa)), (2, false, .int fl), (4, false, .int (nI i))]) dX9_reach_69 rfl (by decide) rfl ?_
                refine sp_iinc X (pc := 70) (v := nI (i + 1)) (lv' := [(4, false, .int (nI (i + 1))), (3, false, va_rf (some (NA k9))), (5, false, va_rf (some (NA k9))), (0, false, va_rf (some (A 5))), (1, false, va_rf (some pa)), (2, false, .int fl)]) dX9_reach_70 rfl (nI_1 i) (by decide) rfl ?_
                refine sp_goto X (pc := 73) (tgt := 8) dX9_reach_73 (by decide) ?_
                refine sp_pick X [3, 4, 5, 1, 0] (lv' := [(0, false, va_rf (some (A 5))), (1, false, va_rf (some pa)), (2, false, .int fl), (3, false, va_rf (some (NA k9))), (4, false, .int (nI (i + 1)))]) rfl ?_
                have hle : ¬ (¬ fl = 0 ∧ ¬ T.w k9 = us.getD i []) := by
                  first | exact fun z => z.1 hb45 | exact fun z => z.2 (hp59.ne hb62)
                exact ih (s0 - (i + 1)) (by omega) (i + 1) k9 (by omega) hkn (fun o z => hrc o (by rw [hdr]; exact Or.inr ⟨hk0, Or.inr ⟨k9, ho9, Or.inr ⟨hle, z⟩⟩⟩)) rfl
              · refine sp_null X (pc := 65) dX9_reach_65 ?_
                refine sp_areturn X (pc := 66) (by first | exact Or.inl ⟨_, rfl⟩ | exact Or.inr ⟨_, rfl⟩) dX9_reach_66 ⟨_, rfl, ?_⟩
                first
                  | exact ⟨⟨none, hrc _ (by rw [hdr]; exact Or.inr ⟨hk0, Or.inl ⟨by rw [← hon]; exact ho9, rfl⟩⟩), fun j e => (by cases e), rfl⟩, rfl⟩
                  | exact ⟨⟨none, hrc _ (by rw [hdr]; exact Or.inr ⟨hk0, Or.inr ⟨k9, ho9, Or.inl ⟨hb45, hp59.eq hb62, rfl⟩⟩⟩), fun j e => (by cases e), rfl⟩, rfl⟩
        · have hk0 : ¬ T.k j9 = 0 := fun z => by
            rw [if_pos (hfd.mpr z)] at hb21
            exact absurd hb21 (by decide)
          refine sp_null X (pc := 24) dX9_reach_24 ?_
          refine sp_areturn X (pc := 25) (by first | exact Or.inl ⟨_, rfl⟩ | exact Or.inr ⟨_, rfl⟩) dX9_reach_25 ⟨_, rfl, ?_⟩
          exact ⟨⟨none, hrc _ (by rw [hdr]; exact Or.inl ⟨hk0, rfl⟩), fun j e => (by cases e), rfl⟩, rfl⟩
  refine sp_pick X [2, 3, 4, 1, 0] (lv' := [(0, false, va_rf (some (A 5))), (1, false, va_rf (some pa)), (2, false, .int fl), (3, false, va_rf (some (A 12))), (4, false, .int 0)]) rfl ?_
  rw [show A 12 = NA 1 from hNA.2.1.symm]
  exact loop8 _ 0 1 (Nat.zero_le _) (by have := hW.1.1; omega) (fun o z => z) rfl

theorem sp_nd.state {G : sp_G} {m : sp_M} {R : Int32} {TT : Nat → List Int32} {T : pu_N} {NA BA : Nat → Nat} {j n b t : Nat} {v : Int32} (h : sp_nd G m R TT T NA BA j) (hW : pu_W n b t T) (hj : j < n) (hv : (v = -1 ∧ ¬ m.fI 327 (NA j) = 0) ∨ (m.fI 327 (NA j) = 0 ∧ ((v = 2 ∧ ¬ m.fR 323 (NA j) = none) ∨ (m.fR 323 (NA j) = none ∧ ((¬ m.fR 324 (NA j) = none ∧ ((v = 4 ∧ ¬ m.fI 325 (NA j) = 0) ∨ (v = 3 ∧ m.fI 325 (NA j) = 0))) ∨ (m.fR 324 (NA j) = none ∧ ((v = 1 ∧ ¬ m.fI 326 (NA j) = 0) ∨ (v = 0 ∧ m.fI 326 (NA j) = 0)))))))) : (¬ T.g j = 0 ∧ v = -1) ∨ (T.g j = 0 ∧ ((T.k j = 1 ∧ v = 2) ∨ (T.k j = 2 ∧ ((¬ T.d j = 0 ∧ v = 4) ∨ (T.d j = 0 ∧ v = 3))) ∨ (T.k j = 0 ∧ ((¬ T.s j = 0 ∧ v = 1) ∨ (T.s j = 0 ∧ v = 0))))) := by
  obtain ⟨nd1, nd2, nd3, nd9, ⟨nd4, nd5, nd6⟩, nd7, nd8, nd0⟩ := h
  rw [nd4, nd5, nd6, nd7] at hv
  rcases hv with ⟨a1, a2⟩ | ⟨a1, a2⟩
  · exact Or.inl ⟨a2, a1⟩
  · refine Or.inr ⟨a1, ?_⟩
    rcases hW.2.2.2.1 j hj with q | ⟨q, -⟩ | ⟨q, -⟩
    · rw [if_neg (by rw [q]; decide), nd8 (by rw [q]; decide)] at a2
      rcases a2 with ⟨-, b2⟩ | ⟨-, ⟨b2, -⟩ | ⟨-, b2⟩⟩
      · exact absurd rfl b2
      · exact absurd rfl b2
      · refine Or.inr (Or.inr ⟨q, ?_⟩)
        rcases b2 with ⟨c1, c2⟩ | ⟨c1, c2⟩
        · exact Or.inl ⟨c2, c1⟩
        · exact Or.inr ⟨c2, c1⟩
    · rw [if_pos q] at a2
      rcases a2 with ⟨b1, -⟩ | ⟨b1, -⟩
      · exact Or.inl ⟨q, b1⟩
      · cases b1
    · obtain ⟨ta, r1, -⟩ := nd0 q
      rw [if_neg (by rw [q]; decide), r1] at a2
      rcases a2 with ⟨-, b2⟩ | ⟨-, ⟨-, b2⟩ | ⟨b2, -⟩⟩
      · exact absurd rfl b2
      · refine Or.inr (Or.inl ⟨q, ?_⟩)
        rcases b2 with ⟨c1, c2⟩ | ⟨c1, c2⟩
        · exact Or.inl ⟨c2, c1⟩
        · exact Or.inr ⟨c2, c1⟩
      · cases b2
set_option maxRecDepth 20000 in
theorem c_Tree_countShut (l : Launch) (G : sp_G) (m : sp_M) {P : Nat → Prop} {A : Nat → Nat} (hJ : sp_J G P sp_E0 m) (ht : sp_tr m A) {R : Int32} {TT : Nat → List Int32} {n nb0 nt0 : Nat} {T : pu_N} {NA BA : Nat → Nat} (hN : sp_cN G m A R TT n T NA BA) (hW : pu_W n nb0 nt0 T) : sp_C l G M_Tree_countShut 0 0 [.ref (A 5)] m (sp_oI fun v m' => v = nI (pu_ct (fun q => T.g q = 0 ∧ T.k q = 0 ∧ ¬ T.s q = 0) n) ∧ m' = m) := by
  refine sp_enter (lv0 := [(0, false, va_rf (some (A 5)))]) "SafePaths$Tree" false rfl (by decide) (fun h => by cases h) (Nat.le_of_ble_eq_true rfl) rfl ?_
  intro w X
  obtain ⟨t0, t1, t2, t3, t4, t5, t6, t7, t8, t9, t10, t11, t12, t13, t14, t15, t16⟩ := ht
  obtain ⟨ed, s, hli, hel6⟩ := hJ.lst t4 t5
  have hsz := hli.2.2.1
  have hs9 : s < 2 ^ 31 := by have := hli.2.2.2.1; have := hli.2.2.2.2.1; omega
  obtain ⟨⟨e9, l9, el9⟩, hNA, hND⟩ := id hN
  obtain ⟨hed9, hs99⟩ := sp_sz_fun l9 hli
  subst hed9 hs99
  have h200 := hW.1.2
  refine sp_iconst X (pc := 0) (v := 0) dX9_countShut_0 (by decide) ?_
  refine sp_istore_n X (pc := 1) (lv' := [(1, false, .int 0), (0, false, va_rf (some (A 5)))]) dX9_countShut_1 rfl (by decide) rfl ?_
  refine sp_iconst X (pc := 2) (v := 0) dX9_countShut_2 (by decide) ?_
  refine sp_istore_n X (pc := 3) (lv' := [(2, false, .int 0), (1, false, .int 0), (0, false, va_rf (some (A 5)))]) dX9_countShut_3 rfl (by decide) rfl ?_
  have loop4 : ∀ (dz : Nat) (i : Nat), i ≤ n → n - i = dz → w 0 0 m 4 [(0, false, va_rf (some (A 5))), (1, false, .int (nI (pu_ct (fun q => T.g q = 0 ∧ T.k q = 0 ∧ ¬ T.s q = 0) i))), (2, false, .int (nI i))] [] := by
    intro dz
    induction dz using Nat.strongRecOn with
    | ind dz ih =>
      intro i hi0 hdz
      refine sp_iload_n X (pc := 4) (x := nI i) dX9_countShut_4 rfl rfl ?_
      refine sp_aload_n X (pc := 5) (r := some (A 5)) dX9_countShut_5 rfl rfl ?_
      refine sp_getfield X (pc := 6) (c := 10) (i := 1) (t := 2) (a := (A 5)) (v := va_rf (some (A 9))) rfl (by first | assumption | omega) (by decide) rfl (congrArg va_rf t3) fl_Tree_16 dX9_countShut_6 ?_
      refine sp_callV X (pc := 9) (mc := 0) (ms := 0) (b := (A 9)) (c := 0) (r := (some (A 9))) (As := []) (rest := [.int (nI i)]) (c_List_size l G _ t4) ok_List_size rfl (by first | assumption | omega) (by decide) rfl lk_Tree_72 rfl rfl (by simp [sp_cat_rf, sp_cat_i, sp_cat_l]) (Nat.le_of_ble_eq_true rfl) (Nat.le_of_ble_eq_true rfl) (Nat.zero_le _) (Nat.zero_le _) dX9_countShut_9 (sp_kI fun v9 m9 hp9 => ?_)
      obtain ⟨hp9v, hp9⟩ := hp9; replace hp9 := (hp9).symm; subst hp9; replace hp9v := (hp9v).symm; subst hp9v
      rw [hsz]
      refine sp_icmp_ge X (pc := 12) (tgt := 42) dX9_countShut_12 (by decide) (fun hb12 => ?_) (fun hb12 => ?_)
      · have hi : n ≤ i := sp_nge hb12 (by omega) (by omega)
        obtain rfl : i = n := by omega
        refine sp_iload_n X (pc := 42) (x := nI (pu_ct (fun q => T.g q = 0 ∧ T.k q = 0 ∧ ¬ T.s q = 0) i)) dX9_countShut_42 rfl rfl ?_
        refine sp_ireturn X (pc := 43) dX9_countShut_43 rfl ⟨_, rfl, ?_⟩
        exact ⟨rfl, rfl⟩
      · have hi : i < n := sp_nlt hb12 (by omega)
        have hb := el9 i hi
        obtain ⟨nd1, nd2, nd3, nd9, ⟨nd4, nd5, nd6⟩, nd7, nd8, nd0⟩ := hND i hi
        refine sp_aload_n X (pc := 15) (r := some (A 5)) dX9_countShut_15 rfl rfl ?_
        refine sp_getfield X (pc := 16) (c := 10) (i := 1) (t := 2) (a := (A 5)) (v := va_rf (some (A 9))) rfl (by first | assumption | omega) (by decide) rfl (congrArg va_rf t3) fl_Tree_16 dX9_countShut_16 ?_
        refine sp_iload_n X (pc := 19) (x := nI i) dX9_countShut_19 rfl rfl ?_
        refine sp_callV X (pc := 20) (mc := 0) (ms := 0) (b := (A 9)) (c := 0) (r := (some (A 9))) (As := [.int (nI i)]) (rest := []) (c_List_get l G _ hli hi) ok_List_get rfl (by first | assumption | omega) (by decide) rfl lk_Tree_76 rfl rfl (Nat.zero_le _) (Nat.le_of_ble_eq_true rfl) (Nat.le_of_ble_eq_true rfl) (Nat.zero_le _) (Nat.zero_le _) dX9_countShut_20 (sp_kR fun v20 m20 hp20 => ?_)
        obtain ⟨hp20v, hp20⟩ := hp20; replace hp20 := (hp20).symm; subst hp20; replace hp20v := (hp20v).symm; subst hp20v
        rw [hb]
        refine sp_checkcast X (pc := 23) (a := (NA i)) (c := 5) rfl nd1 (by decide) cl_Tree_30 dX9_countShut_23 ?_
        refine sp_callV X (pc := 26) (mc := 0) (ms := 0) (b := (NA i)) (c := 5) (r := some (NA i)) (As := []) (rest := []) (c_Node_state l G _ nd1) ok_Node_state rfl nd1 (by decide) rfl lk_Tree_124 rfl rfl (Nat.zero_le _) (Nat.le_of_ble_eq_true rfl) (Nat.le_of_ble_eq_true rfl) (Nat.zero_le _) (Nat.zero_le _) dX9_countShut_26 (sp_kI fun v26 m26 hp26 => ?_)
        obtain ⟨hp26, hp26m⟩ := hp26; replace hp26m := (hp26m).symm; subst hp26m
        have hst := (hND i hi).state hW hi hp26
        refine sp_iconst X (pc := 29) (v := 1) dX9_countShut_29 (by decide) ?_
        refine sp_icmp_ne X (pc := 30) (tgt := 36) dX9_countShut_30 (by decide) (fun hb30 => ?_) (fun hb30 => ?_)
        · have hct : pu_ct (fun q => T.g q = 0 ∧ T.k q = 0 ∧ ¬ T.s q = 0) (i + 1) = pu_ct (fun q => T.g q = 0 ∧ T.k q = 0 ∧ ¬ T.s q = 0) i := pu_ct_f (fun z => by
            rcases hst with ⟨w1, -⟩ | ⟨-, ⟨w1, -⟩ | ⟨w1, -⟩ | ⟨-, ⟨-, w2⟩ | ⟨w1, -⟩⟩⟩
            · exact w1 z.1
            · have := w1.symm.trans z.2.1; exact absurd this (by decide)
            · have := w1.symm.trans z.2.1; exact absurd this (by decide)
            · exact hb30 w2
            · exact z.2.2 w1)
          refine sp_iinc X (pc := 36) (v := nI (i + 1)) (lv' := [(2, false, .int (nI (i + 1))), (0, false, va_rf (some (A 5))), (1, false, .int (nI (pu_ct (fun q => T.g q = 0 ∧ T.k q = 0 ∧ ¬ T.s q = 0) i)))]) dX9_countShut_36 rfl (nI_1 i) (by decide) rfl ?_
          refine sp_goto X (pc := 39) (tgt := 4) dX9_countShut_39 (by decide) ?_
          refine sp_pick X [1, 2, 0] (lv' := [(0, false, va_rf (some (A 5))), (1, false, .int (nI (pu_ct (fun q => T.g q = 0 ∧ T.k q = 0 ∧ ¬ T.s q = 0) i))), (2, false, .int (nI (i + 1)))]) rfl ?_
          rw [← hct]
          exact ih (n - (i + 1)) (by omega) (i + 1) (by omega) rfl
        · have hct : pu_ct (fun q => T.g q = 0 ∧ T.k q = 0 ∧ ¬ T.s q = 0) (i + 1) = pu_ct (fun q => T.g q = 0 ∧ T.k q = 0 ∧ ¬ T.s q = 0) i + 1 := pu_ct_t (by
            rcases hst with ⟨-, w2⟩ | ⟨w0, ⟨-, w2⟩ | ⟨-, ⟨-, w2⟩ | ⟨-, w2⟩⟩ | ⟨w1, ⟨w2, -⟩ | ⟨-, w2⟩⟩⟩
            · rw [w2] at hb30; exact absurd hb30 (by decide)
            · rw [w2] at hb30; exact absurd hb30 (by decide)
            · rw [w2] at hb30; exact absurd hb30 (by decide)
            · rw [w2] at hb30; exact absurd hb30 (by decide)
            · exact ⟨w0, w1, w2⟩
            · rw [w2] at hb30; exact absurd hb30 (by decide))
          refine sp_iinc X (pc := 33) (v := nI (pu_ct (fun q => T.g q = 0 ∧ T.k q = 0 ∧ ¬ T.s q = 0) i + 1)) (lv' := [(1, false, .int (nI (pu_ct (fun q => T.g q = 0 ∧ T.k q = 0 ∧ ¬ T.s q = 0) i + 1))), (0, false, va_rf (some (A 5))), (2, false, .int (nI i))]) dX9_countShut_33 rfl (nI_1 _) (by decide) rfl ?_
          refine sp_iinc X (pc := 36) (v := nI (i + 1)) (lv' := [(2, false, .int (nI (i + 1))), (1, false, .int (nI (pu_ct (fun q => T.g q = 0 ∧ T.k q = 0 ∧ ¬ T.s q = 0) i + 1))), (0, false, va_rf (some (A 5)))]) dX9_countShut_36 rfl (nI_1 i) (by decide) rfl ?_
          refine sp_goto X (pc := 39) (tgt := 4) dX9_countShut_39 (by decide) ?_
          refine sp_pick X [2, 1, 0] (lv' := [(0, false, va_rf (some (A 5))), (1, false, .int (nI (pu_ct (fun q => T.g q = 0 ∧ T.k q = 0 ∧ ¬ T.s q = 0) i + 1))), (2, false, .int (nI (i + 1)))]) rfl ?_
          rw [← hct]
          exact ih (n - (i + 1)) (by omega) (i + 1) (by omega) rfl
  refine sp_pick X [2, 1, 0] (lv' := [(0, false, va_rf (some (A 5))), (1, false, .int 0), (2, false, .int 0)]) rfl ?_
  exact loop4 _ 0 (Nat.zero_le _) rfl
set_option maxRecDepth 20000 in
theorem c_Tree_countFilesWith (l : Launch) (G : sp_G) (m : sp_M) {P : Nat → Prop} {A : Nat → Nat} (hJ : sp_J G P sp_E0 m) (ht : sp_tr m A) {R : Int32} {TT : Nat → List Int32} {n nb0 nt0 : Nat} {T : pu_N} {NA BA : Nat → Nat} (hN : sp_cN G m A R TT n T NA BA) (hW : pu_W n nb0 nt0 T) {b9 : Nat} (hb9 : b9 < nb0) (hBA : ∀ x y, x < nb0 → y < nb0 → BA x = BA y → x = y) : sp_C l G M_Tree_countFilesWith 0 0 [.ref (A 5), .ref (BA b9)] m (sp_oI fun v m' => v = nI (pu_ct (fun q => T.g q = 0 ∧ T.k q = 1 ∧ T.h q = b9) n) ∧ m' = m) := by
  refine sp_enter (lv0 := [(0, false, va_rf (some (A 5))), (1, false, va_rf (some (BA b9)))]) "SafePaths$Tree" false rfl (by decide) (fun h => by cases h) (Nat.le_of_ble_eq_true rfl) rfl ?_
  intro w X
  obtain ⟨t0, t1, t2, t3, t4, t5, t6, t7, t8, t9, t10, t11, t12, t13, t14, t15, t16⟩ := ht
  obtain ⟨ed, s, hli, hel6⟩ := hJ.lst t4 t5
  have hsz := hli.2.2.1
  have hs9 : s < 2 ^ 31 := by have := hli.2.2.2.1; have := hli.2.2.2.2.1; omega
  obtain ⟨⟨e9, l9, el9⟩, hNA, hND⟩ := id hN
  obtain ⟨hed9, hs99⟩ := sp_sz_fun l9 hli
  subst hed9 hs99
  have h200 := hW.1.2
  refine sp_iconst X (pc := 0) (v := 0) dX9_countFilesWith_0 (by decide) ?_
  refine sp_istore_n X (pc := 1) (lv' := [(2, false, .int 0), (0, false, va_rf (some (A 5))), (1, false, va_rf (some (BA b9)))]) dX9_countFilesWith_1 rfl (by decide) rfl ?_
  refine sp_iconst X (pc := 2) (v := 0) dX9_countFilesWith_2 (by decide) ?_
  refine sp_istore_n X (pc := 3) (lv' := [(3, false, .int 0), (2, false, .int 0), (0, false, va_rf (some (A 5))), (1, false, va_rf (some (BA b9)))]) dX9_countFilesWith_3 rfl (by decide) rfl ?_
  have loop4 : ∀ (dz : Nat) (i : Nat), i ≤ n → n - i = dz → w 0 0 m 4 [(0, false, va_rf (some (A 5))), (1, false, va_rf (some (BA b9))), (2, false, .int (nI (pu_ct (fun q => T.g q = 0 ∧ T.k q = 1 ∧ T.h q = b9) i))), (3, false, .int (nI i))] [] := by
    intro dz
    induction dz using Nat.strongRecOn with
    | ind dz ih =>
      intro i hi0 hdz
      refine sp_iload_n X (pc := 4) (x := nI i) dX9_countFilesWith_4 rfl rfl ?_
      refine sp_aload_n X (pc := 5) (r := some (A 5)) dX9_countFilesWith_5 rfl rfl ?_
      refine sp_getfield X (pc := 6) (c := 10) (i := 1) (t := 2) (a := (A 5)) (v := va_rf (some (A 9))) rfl (by first | assumption | omega) (by decide) rfl (congrArg va_rf t3) fl_Tree_16 dX9_countFilesWith_6 ?_
      refine sp_callV X (pc := 9) (mc := 0) (ms := 0) (b := (A 9)) (c := 0) (r := (some (A 9))) (As := []) (rest := [.int (nI i)]) (c_List_size l G _ t4) ok_List_size rfl (by first | assumption | omega) (by decide) rfl lk_Tree_72 rfl rfl (by simp [sp_cat_rf, sp_cat_i, sp_cat_l]) (Nat.le_of_ble_eq_true rfl) (Nat.le_of_ble_eq_true rfl) (Nat.zero_le _) (Nat.zero_le _) dX9_countFilesWith_9 (sp_kI fun v9 m9 hp9 => ?_)
      obtain ⟨hp9v, hp9⟩ := hp9; replace hp9 := (hp9).symm; subst hp9; replace hp9v := (hp9v).symm; subst hp9v
      rw [hsz]
      refine sp_icmp_ge X (pc := 12) (tgt := 54) dX9_countFilesWith_12 (by decide) (fun hb12 => ?_) (fun hb12 => ?_)
      · have hi : n ≤ i := sp_nge hb12 (by omega) (by omega)
        obtain rfl : i = n := by omega
        refine sp_iload_n X (pc := 54) (x := nI (pu_ct (fun q => T.g q = 0 ∧ T.k q = 1 ∧ T.h q = b9) i)) dX9_countFilesWith_54 rfl rfl ?_
        refine sp_ireturn X (pc := 55) dX9_countFilesWith_55 rfl ⟨_, rfl, ?_⟩
        exact ⟨rfl, rfl⟩
      · have hi : i < n := sp_nlt hb12 (by omega)
        have hb := el9 i hi
        obtain ⟨nd1, nd2, nd3, nd9, ⟨nd4, nd5, nd6⟩, nd7, nd8, nd0⟩ := hND i hi
        refine sp_aload_n X (pc := 15) (r := some (A 5)) dX9_countFilesWith_15 rfl rfl ?_
        refine sp_getfield X (pc := 16) (c := 10) (i := 1) (t := 2) (a := (A 5)) (v := va_rf (some (A 9))) rfl (by first | assumption | omega) (by decide) rfl (congrArg va_rf t3) fl_Tree_16 dX9_countFilesWith_16 ?_
        refine sp_iload_n X (pc := 19) (x := nI i) dX9_countFilesWith_19 rfl rfl ?_
        refine sp_callV X (pc := 20) (mc := 0) (ms := 0) (b := (A 9)) (c := 0) (r := (some (A 9))) (As := [.int (nI i)]) (rest := []) (c_List_get l G _ hli hi) ok_List_get rfl (by first | assumption | omega) (by decide) rfl lk_Tree_76 rfl rfl (Nat.zero_le _) (Nat.le_of_ble_eq_true rfl) (Nat.le_of_ble_eq_true rfl) (Nat.zero_le _) (Nat.zero_le _) dX9_countFilesWith_20 (sp_kR fun v20 m20 hp20 => ?_)
        obtain ⟨hp20v, hp20⟩ := hp20; replace hp20 := (hp20).symm; subst hp20; replace hp20v := (hp20v).symm; subst hp20v
        rw [hb]
        refine sp_checkcast X (pc := 23) (a := (NA i)) (c := 5) rfl nd1 (by decide) cl_Tree_30 dX9_countFilesWith_23 ?_
        refine sp_astore X (pc := 26) (lv' := [(4, false, va_rf (some (NA i))), (0, false, va_rf (some (A 5))), (1, false, va_rf (some (BA b9))), (2, false, .int (nI (pu_ct (fun q => T.g q = 0 ∧ T.k q = 1 ∧ T.h q = b9) i))), (3, false, .int (nI i))]) dX9_countFilesWith_26  (by decide) rfl ?_
        refine sp_aload X (pc := 28) (r := some (NA i)) dX9_countFilesWith_28 rfl ?_
        refine sp_getfield X (pc := 30) (c := 5) (i := 7) (t := 0) (a := (NA i)) (v := .int (m.fI 327 (NA i))) rfl nd1 (by decide) rfl rfl fl_Tree_80 dX9_countFilesWith_30 ?_
        refine sp_if_ne X (pc := 33) (tgt := 48) dX9_countFilesWith_33 (by decide) (fun hb33 => ?_) (fun hb33 => ?_)
        · have hct : pu_ct (fun q => T.g q = 0 ∧ T.k q = 1 ∧ T.h q = b9) (i + 1) = pu_ct (fun q => T.g q = 0 ∧ T.k q = 1 ∧ T.h q = b9) i := pu_ct_f (fun z => hb33 (nd6.trans z.1))
          refine sp_iinc X (pc := 48) (v := nI (i + 1)) (lv' := [(3, false, .int (nI (i + 1))), (4, false, va_rf (some (NA i))), (0, false, va_rf (some (A 5))), (1, false, va_rf (some (BA b9))), (2, false, .int (nI (pu_ct (fun q => T.g q = 0 ∧ T.k q = 1 ∧ T.h q = b9) i)))]) dX9_countFilesWith_48 rfl (nI_1 i) (by decide) rfl ?_
          refine sp_goto X (pc := 51) (tgt := 4) dX9_countFilesWith_51 (by decide) ?_
          refine sp_pick X [2, 3, 4, 0] (lv' := [(0, false, va_rf (some (A 5))), (1, false, va_rf (some (BA b9))), (2, false, .int (nI (pu_ct (fun q => T.g q = 0 ∧ T.k q = 1 ∧ T.h q = b9) i))), (3, false, .int (nI (i + 1)))]) rfl ?_
          rw [← hct]
          exact ih (n - (i + 1)) (by omega) (i + 1) (by omega) rfl
        · refine sp_aload X (pc := 36) (r := some (NA i)) dX9_countFilesWith_36 rfl ?_
          refine sp_getfield X (pc := 38) (c := 5) (i := 3) (t := 2) (a := (NA i)) (v := va_rf (m.fR 323 (NA i))) rfl nd1 (by decide) rfl rfl fl_Tree_135 dX9_countFilesWith_38 ?_
          refine sp_aload_n X (pc := 41) (r := some (BA b9)) dX9_countFilesWith_41 rfl rfl ?_
          refine sp_acmp_ne X (pc := 42) (tgt := 48) dX9_countFilesWith_42 (by decide) (fun hb42 => ?_) (fun hb42 => ?_)
          · have hct : pu_ct (fun q => T.g q = 0 ∧ T.k q = 1 ∧ T.h q = b9) (i + 1) = pu_ct (fun q => T.g q = 0 ∧ T.k q = 1 ∧ T.h q = b9) i := pu_ct_f (fun z => hb42 (by rw [nd7, if_pos z.2.1, z.2.2]))
            refine sp_iinc X (pc := 48) (v := nI (i + 1)) (lv' := [(3, false, .int (nI (i + 1))), (4, false, va_rf (some (NA i))), (0, false, va_rf (some (A 5))), (1, false, va_rf (some (BA b9))), (2, false, .int (nI (pu_ct (fun q => T.g q = 0 ∧ T.k q = 1 ∧ T.h q = b9) i)))]) dX9_countFilesWith_48 rfl (nI_1 i) (by decide) rfl ?_
            refine sp_goto X (pc := 51) (tgt := 4) dX9_countFilesWith_51 (by decide) ?_
            refine sp_pick X [2, 3, 4, 0] (lv' := [(0, false, va_rf (some (A 5))), (1, false, va_rf (some (BA b9))), (2, false, .int (nI (pu_ct (fun q => T.g q = 0 ∧ T.k q = 1 ∧ T.h q = b9) i))), (3, false, .int (nI (i + 1)))]) rfl ?_
            rw [← hct]
            exact ih (n - (i + 1)) (by omega) (i + 1) (by omega) rfl
          · have hct : pu_ct (fun q => T.g q = 0 ∧ T.k q = 1 ∧ T.h q = b9) (i + 1) = pu_ct (fun q => T.g q = 0 ∧ T.k q = 1 ∧ T.h q = b9) i + 1 := pu_ct_t (by
              rw [nd7] at hb42
              by_cases w : T.k i = 1
              · rw [if_pos w] at hb42
                refine ⟨nd6.symm.trans hb33, w, hBA _ _ ?_ hb9 (Option.some.inj hb42)⟩
                rcases hW.2.2.2.1 i hi with y | ⟨-, y⟩ | ⟨y, -⟩
                · rw [w] at y; exact absurd y (by decide)
                · exact y
                · rw [w] at y; exact absurd y (by decide)
              · rw [if_neg w] at hb42; cases hb42)
            refine sp_iinc X (pc := 45) (v := nI (pu_ct (fun q => T.g q = 0 ∧ T.k q = 1 ∧ T.h q = b9) i + 1)) (lv' := [(2, false, .int (nI (pu_ct (fun q => T.g q = 0 ∧ T.k q = 1 ∧ T.h q = b9) i + 1))), (4, false, va_rf (some (NA i))), (0, false, va_rf (some (A 5))), (1, false, va_rf (some (BA b9))), (3, false, .int (nI i))]) dX9_countFilesWith_45 rfl (nI_1 _) (by decide) rfl ?_
            refine sp_iinc X (pc := 48) (v := nI (i + 1)) (lv' := [(3, false, .int (nI (i + 1))), (2, false, .int (nI (pu_ct (fun q => T.g q = 0 ∧ T.k q = 1 ∧ T.h q = b9) i + 1))), (4, false, va_rf (some (NA i))), (0, false, va_rf (some (A 5))), (1, false, va_rf (some (BA b9)))]) dX9_countFilesWith_48 rfl (nI_1 i) (by decide) rfl ?_
            refine sp_goto X (pc := 51) (tgt := 4) dX9_countFilesWith_51 (by decide) ?_
            refine sp_pick X [3, 4, 1, 0] (lv' := [(0, false, va_rf (some (A 5))), (1, false, va_rf (some (BA b9))), (2, false, .int (nI (pu_ct (fun q => T.g q = 0 ∧ T.k q = 1 ∧ T.h q = b9) i + 1))), (3, false, .int (nI (i + 1)))]) rfl ?_
            rw [← hct]
            exact ih (n - (i + 1)) (by omega) (i + 1) (by omega) rfl
  refine sp_pick X [2, 3, 1, 0] (lv' := [(0, false, va_rf (some (A 5))), (1, false, va_rf (some (BA b9))), (2, false, .int 0), (3, false, .int 0)]) rfl ?_
  exact loop4 _ 0 (Nat.zero_le _) rfl
set_option maxRecDepth 20000 in
theorem c_Tree_countIn (l : Launch) (G : sp_G) (m : sp_M) {P : Nat → Prop} {A : Nat → Nat} (hJ : sp_J G P sp_E0 m) (ht : sp_tr m A) {f : Nat} (hf : m.ty f = 6) : sp_C l G M_Tree_countIn 0 0 [.ref (A 5), .ref f] m (sp_oI fun v m' => True ∧ m' = m) := by
  refine sp_enter (lv0 := [(0, false, va_rf (some (A 5))), (1, false, va_rf (some f))]) "SafePaths$Tree" false rfl (by decide) (fun h => by cases h) (Nat.le_of_ble_eq_true rfl) rfl ?_
  intro w X
  obtain ⟨t0, t1, t2, t3, t4, t5, t6, t7, t8, t9, t10, t11, t12, t13, t14, t15, t16⟩ := ht
  obtain ⟨ed, s, hli, hel6⟩ := hJ.lst t4 t5
  have hsz := hli.2.2.1
  have hs9 : s < 2 ^ 31 := by have := hli.2.2.2.1; have := hli.2.2.2.2.1; omega
  refine sp_iconst X (pc := 0) (v := 0) dX9_countIn_0 (by decide) ?_
  refine sp_istore_n X (pc := 1) (lv' := [(2, false, .int 0), (0, false, va_rf (some (A 5))), (1, false, va_rf (some f))]) dX9_countIn_1 rfl (by decide) rfl ?_
  refine sp_iconst X (pc := 2) (v := 0) dX9_countIn_2 (by decide) ?_
  refine sp_istore_n X (pc := 3) (lv' := [(3, false, .int 0), (2, false, .int 0), (0, false, va_rf (some (A 5))), (1, false, va_rf (some f))]) dX9_countIn_3 rfl (by decide) rfl ?_
  have loop4 : ∀ (dz : Nat) (i : Nat) (x : Int32), i ≤ s → s - i = dz → w 0 0 m 4 [(0, false, va_rf (some (A 5))), (1, false, va_rf (some f)), (2, false, .int x), (3, false, .int (nI i))] [] := by
    intro dz
    induction dz using Nat.strongRecOn with
    | ind dz ih =>
      intro i x hi0 hdz
      refine sp_iload_n X (pc := 4) (x := nI i) dX9_countIn_4 rfl rfl ?_
      refine sp_aload_n X (pc := 5) (r := some (A 5)) dX9_countIn_5 rfl rfl ?_
      refine sp_getfield X (pc := 6) (c := 10) (i := 1) (t := 2) (a := (A 5)) (v := va_rf (some (A 9))) rfl (by first | assumption | omega) (by decide) rfl (congrArg va_rf t3) fl_Tree_16 dX9_countIn_6 ?_
      refine sp_callV X (pc := 9) (mc := 0) (ms := 0) (b := (A 9)) (c := 0) (r := (some (A 9))) (As := []) (rest := [.int (nI i)]) (c_List_size l G _ t4) ok_List_size rfl (by first | assumption | omega) (by decide) rfl lk_Tree_72 rfl rfl (by simp [sp_cat_rf, sp_cat_i, sp_cat_l]) (Nat.le_of_ble_eq_true rfl) (Nat.le_of_ble_eq_true rfl) (Nat.zero_le _) (Nat.zero_le _) dX9_countIn_9 (sp_kI fun v9 m9 hp9 => ?_)
      obtain ⟨hp9v, hp9⟩ := hp9; replace hp9 := (hp9).symm; subst hp9; replace hp9v := (hp9v).symm; subst hp9v
      rw [hsz]
      refine sp_icmp_ge X (pc := 12) (tgt := 54) dX9_countIn_12 (by decide) (fun hb12 => ?_) (fun hb12 => ?_)
      · have hi : s ≤ i := sp_nge hb12 (by omega) (by omega)
        refine sp_iload_n X (pc := 54) (x := x) dX9_countIn_54 rfl rfl ?_
        refine sp_ireturn X (pc := 55) dX9_countIn_55 rfl ⟨_, rfl, ?_⟩
        exact ⟨trivial, rfl⟩
      · have hi : i < s := sp_nlt hb12 (by omega)
        obtain ⟨b, hb, hbt⟩ := hel6 i hi
        refine sp_aload_n X (pc := 15) (r := some (A 5)) dX9_countIn_15 rfl rfl ?_
        refine sp_getfield X (pc := 16) (c := 10) (i := 1) (t := 2) (a := (A 5)) (v := va_rf (some (A 9))) rfl (by first | assumption | omega) (by decide) rfl (congrArg va_rf t3) fl_Tree_16 dX9_countIn_16 ?_
        refine sp_iload_n X (pc := 19) (x := nI i) dX9_countIn_19 rfl rfl ?_
        refine sp_callV X (pc := 20) (mc := 0) (ms := 0) (b := (A 9)) (c := 0) (r := (some (A 9))) (As := [.int (nI i)]) (rest := []) (c_List_get l G _ hli hi) ok_List_get rfl (by first | assumption | omega) (by decide) rfl lk_Tree_76 rfl rfl (Nat.zero_le _) (Nat.le_of_ble_eq_true rfl) (Nat.le_of_ble_eq_true rfl) (Nat.zero_le _) (Nat.zero_le _) dX9_countIn_20 (sp_kR fun v20 m20 hp20 => ?_)
        obtain ⟨hp20v, hp20⟩ := hp20; replace hp20 := (hp20).symm; subst hp20; replace hp20v := (hp20v).symm; subst hp20v
        rw [hb]
        refine sp_checkcast X (pc := 23) (a := b) (c := 5) rfl (by first | assumption | omega) (by decide) cl_Tree_30 dX9_countIn_23 ?_
        refine sp_astore X (pc := 26) (lv' := [(4, false, va_rf (some b)), (0, false, va_rf (some (A 5))), (1, false, va_rf (some f)), (2, false, .int x), (3, false, .int (nI i))]) dX9_countIn_26  (by decide) rfl ?_
        refine sp_aload X (pc := 28) (r := some b) dX9_countIn_28 rfl ?_
        refine sp_getfield X (pc := 30) (c := 5) (i := 7) (t := 0) (a := b) (v := .int (m.fI 327 b)) rfl (by first | assumption | omega) (by decide) rfl rfl fl_Tree_80 dX9_countIn_30 ?_
        refine sp_if_ne X (pc := 33) (tgt := 48) dX9_countIn_33 (by decide) (fun hb33 => ?_) (fun hb33 => ?_)
        · refine sp_iinc X (pc := 48) (v := nI (i + 1)) (lv' := [(3, false, .int (nI (i + 1))), (4, false, va_rf (some b)), (0, false, va_rf (some (A 5))), (1, false, va_rf (some f)), (2, false, .int x)]) dX9_countIn_48 rfl (nI_1 i) (by decide) rfl ?_
          refine sp_goto X (pc := 51) (tgt := 4) dX9_countIn_51 (by decide) ?_
          refine sp_pick X [2, 3, 4, 0] (lv' := [(0, false, va_rf (some (A 5))), (1, false, va_rf (some f)), (2, false, .int x), (3, false, .int (nI (i + 1)))]) rfl ?_
          exact ih (s - (i + 1)) (by omega) (i + 1) _ (by omega) rfl
        · refine sp_aload X (pc := 36) (r := some b) dX9_countIn_36 rfl ?_
          refine sp_callV X (pc := 38) (mc := 0) (ms := 0) (b := b) (c := 5) (r := some b) (As := []) (rest := []) (c_Node_up l G _ hbt) ok_Node_up rfl hbt (by decide) rfl lk_Tree_84 rfl rfl (Nat.zero_le _) (Nat.le_of_ble_eq_true rfl) (Nat.le_of_ble_eq_true rfl) (Nat.zero_le _) (Nat.zero_le _) dX9_countIn_38 (sp_kR fun v38 m38 hp38 => ?_)
          obtain ⟨hp38v, hp38⟩ := hp38; replace hp38 := (hp38).symm; subst hp38; replace hp38v := (hp38v).symm; subst hp38v
          refine sp_aload_n X (pc := 41) (r := some f) dX9_countIn_41 rfl rfl ?_
          refine sp_acmp_ne X (pc := 42) (tgt := 48) dX9_countIn_42 (by decide) (fun hb42 => ?_) (fun hb42 => ?_)
          · refine sp_iinc X (pc := 48) (v := nI (i + 1)) (lv' := [(3, false, .int (nI (i + 1))), (4, false, va_rf (some b)), (0, false, va_rf (some (A 5))), (1, false, va_rf (some f)), (2, false, .int x)]) dX9_countIn_48 rfl (nI_1 i) (by decide) rfl ?_
            refine sp_goto X (pc := 51) (tgt := 4) dX9_countIn_51 (by decide) ?_
            refine sp_pick X [2, 3, 4, 0] (lv' := [(0, false, va_rf (some (A 5))), (1, false, va_rf (some f)), (2, false, .int x), (3, false, .int (nI (i + 1)))]) rfl ?_
            exact ih (s - (i + 1)) (by omega) (i + 1) _ (by omega) rfl
          · refine sp_iinc X (pc := 45) (v := (x + 1)) (lv' := [(2, false, .int (x + 1)), (4, false, va_rf (some b)), (0, false, va_rf (some (A 5))), (1, false, va_rf (some f)), (3, false, .int (nI i))]) dX9_countIn_45 rfl (rfl) (by decide) rfl ?_
            refine sp_iinc X (pc := 48) (v := nI (i + 1)) (lv' := [(3, false, .int (nI (i + 1))), (2, false, .int (x + 1)), (4, false, va_rf (some b)), (0, false, va_rf (some (A 5))), (1, false, va_rf (some f))]) dX9_countIn_48 rfl (nI_1 i) (by decide) rfl ?_
            refine sp_goto X (pc := 51) (tgt := 4) dX9_countIn_51 (by decide) ?_
            refine sp_pick X [3, 4, 1, 0] (lv' := [(0, false, va_rf (some (A 5))), (1, false, va_rf (some f)), (2, false, .int (x + 1)), (3, false, .int (nI (i + 1)))]) rfl ?_
            exact ih (s - (i + 1)) (by omega) (i + 1) _ (by omega) rfl
  refine sp_pick X [2, 3, 1, 0] (lv' := [(0, false, va_rf (some (A 5))), (1, false, va_rf (some f)), (2, false, .int 0), (3, false, .int 0)]) rfl ?_
  exact loop4 _ 0 0 (Nat.zero_le _) rfl
