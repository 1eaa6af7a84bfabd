
theorem sp_lge {n : Int64} (h : 0 ≤ lg_cmp n 0) : ¬ n < 0 := fun z => by
  have q := Int64.lt_iff_toInt_lt.mp z
  unfold lg_cmp at h
  rw [if_neg (fun z2 => by have := Int64.lt_iff_toInt_lt.mp z2; omega), if_neg (fun z2 => by rw [z2] at q; omega)] at h
  exact absurd h (by decide)
theorem sp_llt {n : Int64} (h : ¬ 0 ≤ lg_cmp n 0) : n < 0 := by
  unfold lg_cmp at h
  by_cases h1 : n > 0
  · rw [if_pos h1] at h; exact absurd (by decide) h
  · rw [if_neg h1] at h
    by_cases h2 : n = 0
    · rw [if_pos h2] at h; exact absurd (by decide) h
    · have q1 : ¬ (0 : Int64).toInt < n.toInt := fun z => h1 (Int64.lt_iff_toInt_lt.mpr z)
      have q2 : n.toInt ≠ (0 : Int64).toInt := fun z => h2 (Int64.toInt_inj.mp z)
      exact Int64.lt_iff_toInt_lt.mpr (by omega)

def sp_cP (G : sp_G) (m : sp_M) (A : Nat → Nat) (p : Nat) (PT : Nat → List (List Int32)) : Prop := ∃ e2, sp_li G m (A 2) e2 p ∧ ∀ j, j < p → ∃ pa, m.aR e2 j = some pa ∧ sp_pv G m pa j (PT j)
theorem sp_al_pu {G : sp_G} {P : Nat → Prop} {m : sp_M} {nm b s nm2 b2 s2 rl : Nat} {u v : List Int32} {R : Int32} (hJ : sp_J G P sp_E0 m) (hn : sp_nm m nm b s) (hn2 : sp_nm m nm2 b2 s2) (hu : sp_nv m nm u) (hv : sp_nv m nm2 v) (hx : ¬ m.fI 513 rl = 0 ↔ ¬ sp_hr R 2 = 0) : (sp_eqA m b b2 ∨ (¬ m.fI 513 rl = 0 ∧ sp_eqA m s s2)) ↔ pu_al R u v := by
  obtain ⟨b', s', n1, l1, c1⟩ := hu
  cases hn.2.1.symm.trans n1.2.1
  obtain ⟨b', s', n2, l2, c2⟩ := hv
  cases hn2.2.1.symm.trans n2.2.1
  obtain ⟨b', s', n3, -, -, k1⟩ := hJ.2.2.2.1 nm hn.1 (sp_e0 _)
  cases hn.2.1.symm.trans n3.2.1
  cases hn.2.2.1.symm.trans n3.2.2.1
  obtain ⟨b', s', n4, -, -, k2⟩ := hJ.2.2.2.1 nm2 hn2.1 (sp_e0 _)
  cases hn2.2.1.symm.trans n4.2.1
  cases hn2.2.2.1.symm.trans n4.2.2.1
  have m1 : m.ln s = u.length := hn.2.2.2.2.2.1.symm.trans l1
  have m2 : m.ln s2 = v.length := hn2.2.2.2.2.2.1.symm.trans l2
  unfold sp_eqA pu_al
  rw [propext hx, l1, l2, m1, m2]
  constructor
  · rintro (⟨h1, h2⟩ | ⟨h0, h1, h2⟩)
    · exact ⟨h1, fun i hi => Or.inl (by rw [← c1 i hi, ← c2 i (by omega)]; exact h2 i hi)⟩
    · exact ⟨h1, fun i hi => Or.inr ⟨h0, by
        have q := h2 i hi
        rw [k1 i (by omega), k2 i (by omega), c1 i hi, c2 i (by omega)] at q
        exact q⟩⟩
  · rintro ⟨h1, h2⟩
    by_cases h0 : sp_hr R 2 = 0
    · refine Or.inl ⟨h1, fun i hi => ?_⟩
      rw [c1 i hi, c2 i (by omega)]
      rcases h2 i hi with q | q
      · exact q
      · exact absurd h0 q.1
    · refine Or.inr ⟨h0, h1, fun i hi => ?_⟩
      rw [k1 i (by omega), k2 i (by omega), c1 i hi, c2 i (by omega)]
      rcases h2 i hi with q | q
      · rw [q]
      · exact q.2
def pu_meets (v R : Int32) (p : Nat) (PT : Nat → List (List Int32)) (x y : Int32) : Prop := ((¬ (∃ j, j < p ∧ x = nI j) ∨ ¬ (∃ j, j < p ∧ y = nI j)) ∧ v = -7) ∨ (∃ j k, j < p ∧ x = nI j ∧ k < p ∧ y = nI k ∧ sp_bo v (pu_mt R (PT j) (PT k)))
theorem sp_bo.det {v v' : Int32} {q : Prop} (h : sp_bo v q) (h' : sp_bo v' q) : v = v' := by
  rcases h with ⟨a1, a2⟩ | ⟨a1, a2⟩ <;> rcases h' with ⟨b1, b2⟩ | ⟨b1, b2⟩
  · rw [a1, b1]
  · exact absurd a2 b2
  · exact absurd b2 a2
  · rw [a1, b1]
theorem pu_meets.det {v v' R : Int32} {p : Nat} {PT : Nat → List (List Int32)} {x y : Int32} (hp : p ≤ 60) (h : pu_meets v R p PT x y) (h' : pu_meets v' R p PT x y) : v = v' := by
  rcases h with ⟨a1, a2⟩ | ⟨j, k, a1, a2, a3, a4, a5⟩ <;> rcases h' with ⟨b1, b2⟩ | ⟨j', k', b1, b2, b3, b4, b5⟩
  · exact a2.trans b2.symm
  · rcases a1 with z | z
    · exact absurd ⟨j', b1, b2⟩ z
    · exact absurd ⟨k', b3, b4⟩ z
  · rcases b1 with z | z
    · exact absurd ⟨j, a1, a2⟩ z
    · exact absurd ⟨k, a3, a4⟩ z
  · obtain rfl := pu_nI (a2.symm.trans b2) (by omega) (by omega)
    obtain rfl := pu_nI (a4.symm.trans b4) (by omega) (by omega)
    exact a5.det b5
set_option maxRecDepth 20000 in
theorem c_SP_part (l : Launch) (G : sp_G) (m : sp_M) {P : Nat → Prop} {A : Nat → Nat} (hG : sp_GS G) (hI : sp_I G P A m) {a b c : Int32} {p : Nat} {PT : Nat → List (List Int32)} (hcP : sp_cP G m A p PT) (hp6 : p ≤ 60) (hPl : pu_P p PT) : sp_C l G M_SP_part 0 0 [.ref (A 17), .int a, .int b, .int c] m (sp_oI fun v m' => pu_part v p PT a b c ∧ m' = m) := by
  refine sp_enter (lv0 := [(0, false, va_rf (some (A 17))), (1, false, .int a), (2, false, .int b), (3, false, .int c)]) "SafePaths" false rfl (by decide) (fun h => by cases h) (Nat.le_of_ble_eq_true rfl) rfl ?_
  intro w X
  have hS := hI.S
  have t2 := hS.k 2 1 (by decide)
  have t17 := hS.k 17 13 (by decide)
  obtain ⟨-, e2, s2, li2, lo2⟩ := hS.2.2.1 2 (by unfold sp_ix; omega)
  obtain ⟨-, e3, s3, li3, lo3⟩ := hS.2.2.1 3 (by unfold sp_ix; omega)
  have el2 : ∀ j, j < s2 → ∃ b, m.aR e2 j = some b ∧ m.ty b = 8 := fun j hj => by
    obtain ⟨b, q1, q2⟩ := (hI.J.el li2 (sp_e0 _)).2 j hj
    rw [(hS.2.2.1 2 (by unfold sp_ix; omega)).1] at q2
    exact ⟨b, q1, q2.1⟩
  have el3 : ∀ j, j < s3 → ∃ b, m.aR e3 j = some b ∧ m.ty b = 8 := fun j hj => by
    obtain ⟨b, q1, q2⟩ := (hI.J.el li3 (sp_e0 _)).2 j hj
    rw [(hS.2.2.1 3 (by unfold sp_ix; omega)).1] at q2
    exact ⟨b, q1, q2.1⟩
  have h29 : s2 < 2 ^ 31 := by have := li2.2.2.2.1; have := li2.2.2.2.2.1; omega
  have h39 : s3 < 2 ^ 31 := by have := li3.2.2.2.1; have := li3.2.2.2.2.1; omega
  obtain ⟨e9, l9, hcP2⟩ := hcP
  obtain ⟨rfl, rfl⟩ := sp_sz_fun l9 li2
  refine sp_aload_n X (pc := 0) (r := some (A 17)) dX11_part_0 rfl rfl ?_
  refine sp_getfield X (pc := 1) (c := 12) (i := 2) (t := 2) (a := (A 17)) (v := va_rf (some (A 2))) rfl (by first | assumption | omega) (by decide) rfl (congrArg va_rf (hS.p 770 17 2 (by decide))) fl_SP_28 dX11_part_1 ?_
  refine sp_iload_n X (pc := 4) (x := a) dX11_part_4 rfl rfl ?_
  refine sp_callS X (pc := 5) (mc := 0) (ms := 0) (As := [va_rf (some (A 2)), .int a]) (rest := []) (c_SP_memberOf l G _ (r := 0) li2 el2 h29) ok_SP_memberOf lk_SP_97 rfl rfl (Nat.zero_le _) (Nat.le_of_ble_eq_true rfl) (Nat.le_of_ble_eq_true rfl) (Nat.zero_le _) (Nat.zero_le _) dX11_part_5 (sp_kR fun v5 m5 hp5 => ?_)
  obtain ⟨hp5, hp5m⟩ := hp5; replace hp5m := (hp5m).symm; subst hp5m
  have hx5 : ∀ b, v5 = some b → m.ty b = 8 := fun b hb => by
    rcases hp5 with ⟨j, b2, z1, z2, z3, z4, z5⟩ | ⟨-, z⟩
    · rw [z3] at hb; cases hb; exact z5
    · rw [z] at hb; cases hb
  refine sp_astore X (pc := 8) (lv' := [(4, false, va_rf v5), (0, false, va_rf (some (A 17))), (1, false, .int a), (2, false, .int b), (3, false, .int c)]) dX11_part_8  (by decide) rfl ?_
  refine sp_aload X (pc := 10) (r := v5) dX11_part_10 rfl ?_
  refine sp_ifnonnull X (pc := 12) (tgt := 19) dX11_part_12 (by decide) (fun ra12 hb12 => ?_) (fun hb12 => ?_)
  · have hnt := hx5 _ hb12
    obtain ⟨j, hj, hja, hjm⟩ : ∃ j, j < p ∧ a = nI j ∧ m.aR e9 j = some ra12 := by
      rcases hp5 with ⟨j, b2, z1, z2, z3, z4, z5⟩ | ⟨-, z⟩
      · rw [z3] at hb12; cases hb12; exact ⟨j, z1, z2, z4⟩
      · rw [z] at hb12; cases hb12
    obtain ⟨paj, qj, hvj⟩ := hcP2 j hj
    cases hjm.symm.trans qj
    obtain ⟨L9, ed9, n9, hpt9⟩ := hI.J.pt hnt
    subst hb12
    refine sp_aload X (pc := 19) (r := (some ra12)) dX11_part_19 rfl ?_
    refine sp_iload_n X (pc := 21) (x := b) dX11_part_21 rfl rfl ?_
    refine sp_callV X (pc := 22) (mc := 0) (ms := 0) (b := ra12) (c := 7) (r := (some ra12)) (As := [.int b]) (rest := []) (c_Parted_at l G _ hpt9) ok_Parted_at rfl hnt (by decide) rfl lk_SP_101 rfl rfl (Nat.zero_le _) (Nat.le_of_ble_eq_true rfl) (Nat.le_of_ble_eq_true rfl) (Nat.zero_le _) (Nat.zero_le _) dX11_part_22 (sp_kR fun v22 m22 hp22 => ?_)
    obtain ⟨hp22, hp22m⟩ := hp22; replace hp22m := (hp22m).symm; subst hp22m
    obtain ⟨nm, rfl, hnmt, hk1, hk2⟩ := hp22
    obtain ⟨u, hu, hku⟩ := hvj.at_ hpt9 hk1 hk2
    obtain ⟨nmb, nms, hnmm, hul, hub⟩ := hu
    refine sp_iload_n X (pc := 25) (x := c) dX11_part_25 rfl rfl ?_
    refine sp_callV X (pc := 26) (mc := 0) (ms := 0) (b := nm) (c := 4) (r := some nm) (As := [.int c]) (rest := []) (c_Name_byteAt l G _ hnmm) ok_Name_byteAt rfl hnmt (by decide) rfl lk_SP_105 rfl rfl (Nat.zero_le _) (Nat.le_of_ble_eq_true rfl) (Nat.le_of_ble_eq_true rfl) (Nat.zero_le _) (Nat.zero_le _) dX11_part_26 (sp_kI fun v26 m26 hp26 => ?_)
    obtain ⟨hp26, hp26m⟩ := hp26; replace hp26m := (hp26m).symm; subst hp26m
    refine sp_ireturn X (pc := 29) dX11_part_29 rfl ⟨_, rfl, ?_⟩
    first
      | exact ⟨pu_part.no hno rfl, rfl⟩
      | (refine ⟨pu_part.mk hp6 hPl hj hja hku ?_, rfl⟩
         rcases hp26 with ⟨z1, z2⟩ | ⟨z1, z2⟩
         · obtain ⟨i, w1, w2, w3⟩ := sp_vin z1
           rw [hul] at w1
           exact Or.inl ⟨i, w1, w2, by rw [z2, w3]; exact hub i w1⟩
         · rw [hul] at z1
           exact Or.inr ⟨sp_vno z1 (by have := hnmm.2.2.2.2.2.2; omega), z2⟩)
  · have hno : ¬ ∃ j, j < p ∧ a = nI j := fun ⟨j, q1, q2⟩ => by
        rcases hp5 with ⟨j, b2, z1, z2, z3, z4, z5⟩ | ⟨z, -⟩
        · rw [z3] at hb12; cases hb12
        · exact sp_vno z (by omega) ⟨_, q1, q2⟩
    refine sp_iconst X (pc := 15) (v := (-1)) dX11_part_15 (by decide) ?_
    refine sp_goto X (pc := 16) (tgt := 29) dX11_part_16 (by decide) ?_
    refine sp_ireturn X (pc := 29) dX11_part_29 rfl ⟨_, rfl, ?_⟩
    first
      | exact ⟨pu_part.no hno rfl, rfl⟩
      | (refine ⟨pu_part.mk hp6 hPl hj hja hku ?_, rfl⟩
         rcases hp26 with ⟨z1, z2⟩ | ⟨z1, z2⟩
         · obtain ⟨i, w1, w2, w3⟩ := sp_vin z1
           rw [hul] at w1
           exact Or.inl ⟨i, w1, w2, by rw [z2, w3]; exact hub i w1⟩
         · rw [hul] at z1
           exact Or.inr ⟨sp_vno z1 (by have := hnmm.2.2.2.2.2.2; omega), z2⟩)
set_option maxRecDepth 20000 in
theorem c_SP_meets (l : Launch) (G : sp_G) (m : sp_M) {P : Nat → Prop} {A : Nat → Nat} (hG : sp_GS G) (hI : sp_I G P A m) {a b : Int32} {p : Nat} {PT : Nat → List (List Int32)} {R : Int32} (hcP : sp_cP G m A p PT) (hp6 : p ≤ 60) (hR2 : ¬ m.fI 513 (A 0) = 0 ↔ ¬ sp_hr R 2 = 0) : sp_C l G M_SP_meets 0 0 [.ref (A 17), .int a, .int b] m (sp_oI fun v m' => pu_meets v R p PT a b ∧ m' = m) := by
  refine sp_enter (lv0 := [(0, false, va_rf (some (A 17))), (1, false, .int a), (2, false, .int b)]) "SafePaths" false rfl (by decide) (fun h => by cases h) (Nat.le_of_ble_eq_true rfl) rfl ?_
  intro w X
  have hS := hI.S
  have t0 := hS.k 0 9 (by decide)
  have t2 := hS.k 2 1 (by decide)
  have t17 := hS.k 17 13 (by decide)
  obtain ⟨-, e2, s2, li2, lo2⟩ := hS.2.2.1 2 (by unfold sp_ix; omega)
  obtain ⟨-, e3, s3, li3, lo3⟩ := hS.2.2.1 3 (by unfold sp_ix; omega)
  have el2 : ∀ j, j < s2 → ∃ b, m.aR e2 j = some b ∧ m.ty b = 8 := fun j hj => by
    obtain ⟨b, q1, q2⟩ := (hI.J.el li2 (sp_e0 _)).2 j hj
    rw [(hS.2.2.1 2 (by unfold sp_ix; omega)).1] at q2
    exact ⟨b, q1, q2.1⟩
  have el3 : ∀ j, j < s3 → ∃ b, m.aR e3 j = some b ∧ m.ty b = 8 := fun j hj => by
    obtain ⟨b, q1, q2⟩ := (hI.J.el li3 (sp_e0 _)).2 j hj
    rw [(hS.2.2.1 3 (by unfold sp_ix; omega)).1] at q2
    exact ⟨b, q1, q2.1⟩
  have h29 : s2 < 2 ^ 31 := by have := li2.2.2.2.1; have := li2.2.2.2.2.1; omega
  have h39 : s3 < 2 ^ 31 := by have := li3.2.2.2.1; have := li3.2.2.2.2.1; omega
  obtain ⟨e9, l9, hcP2⟩ := hcP
  obtain ⟨rfl, rfl⟩ := sp_sz_fun l9 li2
  refine sp_aload_n X (pc := 0) (r := some (A 17)) dX11_meets_0 rfl rfl ?_
  refine sp_getfield X (pc := 1) (c := 12) (i := 2) (t := 2) (a := (A 17)) (v := va_rf (some (A 2))) rfl (by first | assumption | omega) (by decide) rfl (congrArg va_rf (hS.p 770 17 2 (by decide))) fl_SP_28 dX11_meets_1 ?_
  refine sp_iload_n X (pc := 4) (x := a) dX11_meets_4 rfl rfl ?_
  refine sp_callS X (pc := 5) (mc := 0) (ms := 0) (As := [va_rf (some (A 2)), .int a]) (rest := []) (c_SP_memberOf l G _ (r := 0) li2 el2 h29) ok_SP_memberOf lk_SP_97 rfl rfl (Nat.zero_le _) (Nat.le_of_ble_eq_true rfl) (Nat.le_of_ble_eq_true rfl) (Nat.zero_le _) (Nat.zero_le _) dX11_meets_5 (sp_kR fun v5 m5 hp5 => ?_)
  obtain ⟨hp5, hp5m⟩ := hp5; replace hp5m := (hp5m).symm; subst hp5m
  have hx5 : ∀ b, v5 = some b → m.ty b = 8 := fun b hb => by
    rcases hp5 with ⟨j, b2, z1, z2, z3, z4, z5⟩ | ⟨-, z⟩
    · rw [z3] at hb; cases hb; exact z5
    · rw [z] at hb; cases hb
  refine sp_astore_n X (pc := 8) (lv' := [(3, false, va_rf v5), (0, false, va_rf (some (A 17))), (1, false, .int a), (2, false, .int b)]) dX11_meets_8 rfl (by decide) rfl ?_
  refine sp_aload_n X (pc := 9) (r := some (A 17)) dX11_meets_9 rfl rfl ?_
  refine sp_getfield X (pc := 10) (c := 12) (i := 2) (t := 2) (a := (A 17)) (v := va_rf (some (A 2))) rfl (by first | assumption | omega) (by decide) rfl (congrArg va_rf (hS.p 770 17 2 (by decide))) fl_SP_28 dX11_meets_10 ?_
  refine sp_iload_n X (pc := 13) (x := b) dX11_meets_13 rfl rfl ?_
  refine sp_callS X (pc := 14) (mc := 0) (ms := 0) (As := [va_rf (some (A 2)), .int b]) (rest := []) (c_SP_memberOf l G _ (r := 0) li2 el2 h29) ok_SP_memberOf lk_SP_97 rfl rfl (Nat.zero_le _) (Nat.le_of_ble_eq_true rfl) (Nat.le_of_ble_eq_true rfl) (Nat.zero_le _) (Nat.zero_le _) dX11_meets_14 (sp_kR fun v14 m14 hp14 => ?_)
  obtain ⟨hp14, hp14m⟩ := hp14; replace hp14m := (hp14m).symm; subst hp14m
  have hx14 : ∀ b, v14 = some b → m.ty b = 8 := fun b hb => by
    rcases hp14 with ⟨j, b2, z1, z2, z3, z4, z5⟩ | ⟨-, z⟩
    · rw [z3] at hb; cases hb; exact z5
    · rw [z] at hb; cases hb
  refine sp_astore X (pc := 17) (lv' := [(4, false, va_rf v14), (3, false, va_rf v5), (0, false, va_rf (some (A 17))), (1, false, .int a), (2, false, .int b)]) dX11_meets_17  (by decide) rfl ?_
  refine sp_aload_n X (pc := 19) (r := v5) dX11_meets_19 rfl rfl ?_
  refine sp_ifnull X (pc := 20) (tgt := 28) dX11_meets_20 (by decide) (fun hb20 => ?_) (fun ra20 hb20 => ?_)
  · have hno : ¬ (∃ j, j < p ∧ a = nI j) ∨ ¬ (∃ j, j < p ∧ b = nI j) := Or.inl (fun ⟨j, q1, q2⟩ => by
        rcases hp5 with ⟨j, b2, z1, z2, z3, z4, z5⟩ | ⟨z, -⟩
        · rw [z3] at hb20; cases hb20
        · exact sp_vno z (by omega) ⟨_, q1, q2⟩)
    refine sp_bipush X (pc := 28) (v := (-7)) dX11_meets_28 (by decide) ?_
    refine sp_ireturn X (pc := 30) dX11_meets_30 rfl ⟨_, rfl, ?_⟩
    exact ⟨Or.inl ⟨hno, rfl⟩, rfl⟩
  · have hnt := hx5 _ hb20
    obtain ⟨j, hj, hja, hjm⟩ : ∃ j, j < p ∧ a = nI j ∧ m.aR e9 j = some ra20 := by
      rcases hp5 with ⟨j, b2, z1, z2, z3, z4, z5⟩ | ⟨-, z⟩
      · rw [z3] at hb20; cases hb20; exact ⟨j, z1, z2, z4⟩
      · rw [z] at hb20; cases hb20
    obtain ⟨paj, qj, hvj⟩ := hcP2 j hj
    cases hjm.symm.trans qj
    obtain ⟨L9, ed9, n9, hpt9⟩ := hI.J.pt hnt
    subst hb20
    refine sp_aload X (pc := 23) (r := v14) dX11_meets_23 rfl ?_
    refine sp_ifnonnull X (pc := 25) (tgt := 31) dX11_meets_25 (by decide) (fun ra25 hb25 => ?_) (fun hb25 => ?_)
    · have hnt2 := hx14 _ hb25
      obtain ⟨k, hk, hka, hkm⟩ : ∃ j, j < p ∧ b = nI j ∧ m.aR e9 j = some ra25 := by
        rcases hp14 with ⟨j, b2, z1, z2, z3, z4, z5⟩ | ⟨-, z⟩
        · rw [z3] at hb25; cases hb25; exact ⟨j, z1, z2, z4⟩
        · rw [z] at hb25; cases hb25
      obtain ⟨pak, qk, hvk⟩ := hcP2 k hk
      cases hkm.symm.trans qk
      obtain ⟨L8, ed8, n8, hpt8⟩ := hI.J.pt hnt2
      subst hb25
      have hn9 : n9 ≤ 161 := by have := hpt9.2.2.2.2.2.1; have := hpt9.2.2.2.2.2.2; omega
      have hn8 : n8 ≤ 161 := by have := hpt8.2.2.2.2.2.1; have := hpt8.2.2.2.2.2.2; omega
      obtain ⟨g9, c9, -⟩ := hvj.pt hpt9
      obtain ⟨g8, c8, -⟩ := hvk.pt hpt8
      refine sp_aload_n X (pc := 31) (r := (some ra20)) dX11_meets_31 rfl rfl ?_
      refine sp_callV X (pc := 32) (mc := 0) (ms := 0) (b := ra20) (c := 7) (r := (some ra20)) (As := []) (rest := []) (c_Parted_count l G _ hpt9) ok_Parted_count rfl hnt (by decide) rfl lk_SP_110 rfl rfl (Nat.zero_le _) (Nat.le_of_ble_eq_true rfl) (Nat.le_of_ble_eq_true rfl) (Nat.zero_le _) (Nat.zero_le _) dX11_meets_32 (sp_kI fun v32 m32 hp32 => ?_)
      obtain ⟨hp32v, hp32⟩ := hp32; replace hp32 := (hp32).symm; subst hp32; replace hp32v := (hp32v).symm; subst hp32v
      refine sp_aload X (pc := 35) (r := (some ra25)) dX11_meets_35 rfl ?_
      refine sp_callV X (pc := 37) (mc := 0) (ms := 0) (b := ra25) (c := 7) (r := (some ra25)) (As := []) (rest := [.int (nI n9)]) (c_Parted_count l G _ hpt8) ok_Parted_count rfl hnt2 (by decide) rfl lk_SP_110 rfl rfl (by simp [sp_cat_rf, sp_cat_i, sp_cat_l]) (Nat.le_of_ble_eq_true rfl) (Nat.le_of_ble_eq_true rfl) (Nat.zero_le _) (Nat.zero_le _) dX11_meets_37 (sp_kI fun v37 m37 hp37 => ?_)
      obtain ⟨hp37v, hp37⟩ := hp37; replace hp37 := (hp37).symm; subst hp37; replace hp37v := (hp37v).symm; subst hp37v
      refine sp_icmp_eq X (pc := 40) (tgt := 45) dX11_meets_40 (by decide) (fun hb40 => ?_) (fun hb40 => ?_)
      · have h98 : n9 = n8 := sp_neq hb40 (by omega) (by omega)
        refine sp_iconst X (pc := 45) (v := 0) dX11_meets_45 (by decide) ?_
        refine sp_istore X (pc := 46) (lv' := [(5, false, .int 0), (4, false, va_rf (some ra25)), (3, false, va_rf (some ra20)), (0, false, va_rf (some (A 17))), (1, false, .int a), (2, false, .int b)]) dX11_meets_46  (by decide) rfl ?_
        have loop48 : ∀ (dz : Nat) (i : Nat), i ≤ n9 → (∀ q, q < i → pu_al R ((PT j).getD q []) ((PT k).getD q [])) → n9 - i = dz → w 0 0 m 48 [(0, false, va_rf (some (A 17))), (3, false, va_rf (some ra20)), (4, false, va_rf (some ra25)), (5, false, .int (nI i))] [] := by
          intro dz
          induction dz using Nat.strongRecOn with
          | ind dz ih =>
            intro i hi0 hall hdz
            refine sp_iload X (pc := 48) (x := nI i) dX11_meets_48 rfl ?_
            refine sp_aload_n X (pc := 50) (r := (some ra20)) dX11_meets_50 rfl rfl ?_
            refine sp_callV X (pc := 51) (mc := 0) (ms := 0) (b := ra20) (c := 7) (r := (some ra20)) (As := []) (rest := [.int (nI i)]) (c_Parted_count l G _ hpt9) ok_Parted_count rfl hnt (by decide) rfl lk_SP_110 rfl rfl (by simp [sp_cat_rf, sp_cat_i, sp_cat_l]) (Nat.le_of_ble_eq_true rfl) (Nat.le_of_ble_eq_true rfl) (Nat.zero_le _) (Nat.zero_le _) dX11_meets_51 (sp_kI fun v51 m51 hp51 => ?_)
            obtain ⟨hp51v, hp51⟩ := hp51; replace hp51 := (hp51).symm; subst hp51; replace hp51v := (hp51v).symm; subst hp51v
            refine sp_icmp_ge X (pc := 54) (tgt := 88) dX11_meets_54 (by decide) (fun hb54 => ?_) (fun hb54 => ?_)
            · have hi9 : n9 ≤ i := sp_nge hb54 (by omega) (by omega)
              refine sp_iconst X (pc := 88) (v := 1) dX11_meets_88 (by decide) ?_
              refine sp_ireturn X (pc := 89) dX11_meets_89 rfl ⟨_, rfl, ?_⟩
              exact ⟨Or.inr ⟨j, k, hj, hja, hk, hka, sp_bo.t ⟨by omega, fun i hi => hall i (by omega)⟩⟩, rfl⟩
            · have hi : i < n9 := sp_nlt hb54 (by omega)
              obtain ⟨nm, hnm1, hnv1⟩ := c9 i hi
              obtain ⟨nm2, hnm2, hnv2⟩ := c8 i (by omega)
              refine sp_aload_n X (pc := 57) (r := some (A 17)) dX11_meets_57 rfl rfl ?_
              refine sp_getfield X (pc := 58) (c := 12) (i := 0) (t := 2) (a := (A 17)) (v := va_rf (some (A 0))) rfl (by first | assumption | omega) (by decide) rfl (congrArg va_rf (hS.p 768 17 0 (by decide))) fl_SP_12 dX11_meets_58 ?_
              refine sp_aload_n X (pc := 61) (r := (some ra20)) dX11_meets_61 rfl rfl ?_
              refine sp_iload X (pc := 62) (x := nI i) dX11_meets_62 rfl ?_
              refine sp_callV X (pc := 64) (mc := 0) (ms := 0) (b := ra20) (c := 7) (r := (some ra20)) (As := [.int (nI i)]) (rest := [va_rf (some (A 0))]) (c_Parted_at l G _ hpt9) ok_Parted_at rfl hnt (by decide) rfl lk_SP_101 rfl rfl (by simp [sp_cat_rf, sp_cat_i, sp_cat_l]) (Nat.le_of_ble_eq_true rfl) (Nat.le_of_ble_eq_true rfl) (Nat.zero_le _) (Nat.zero_le _) dX11_meets_64 (sp_kR fun v64 m64 hp64 => ?_)
              obtain ⟨hp64, hp64m⟩ := hp64; replace hp64m := (hp64m).symm; subst hp64m
              obtain ⟨nm0, rfl, hnmt, hk1, -⟩ := hp64
              cases (hk1 i hi rfl).symm.trans hnm1
              obtain ⟨nmb, nms, hnmm, -⟩ := hI.J.nm hnmt (sp_e0 _)
              refine sp_aload X (pc := 67) (r := (some ra25)) dX11_meets_67 rfl ?_
              refine sp_iload X (pc := 69) (x := nI i) dX11_meets_69 rfl ?_
              refine sp_callV X (pc := 71) (mc := 0) (ms := 0) (b := ra25) (c := 7) (r := (some ra25)) (As := [.int (nI i)]) (rest := [va_rf (some nm), va_rf (some (A 0))]) (c_Parted_at l G _ hpt8) ok_Parted_at rfl hnt2 (by decide) rfl lk_SP_101 rfl rfl (by simp [sp_cat_rf, sp_cat_i, sp_cat_l]) (Nat.le_of_ble_eq_true rfl) (Nat.le_of_ble_eq_true rfl) (Nat.zero_le _) (Nat.zero_le _) dX11_meets_71 (sp_kR fun v71 m71 hp71 => ?_)
              obtain ⟨hp71, hp71m⟩ := hp71; replace hp71m := (hp71m).symm; subst hp71m
              obtain ⟨nm0, rfl, hnmt2, hk2, -⟩ := hp71
              cases (hk2 i (by omega) rfl).symm.trans hnm2
              obtain ⟨nmb2, nms2, hnmm2, -⟩ := hI.J.nm hnmt2 (sp_e0 _)
              refine sp_callV X (pc := 74) (mc := 0) (ms := 0) (b := (A 0)) (c := 8) (r := (some (A 0))) (As := [va_rf (some nm), va_rf (some nm2)]) (rest := []) (c_Rules_takeAsOne l G _ t0 hnmm hnmm2) ok_Rules_takeAsOne rfl t0 (by decide) rfl lk_SP_113 rfl rfl (Nat.zero_le _) (Nat.le_of_ble_eq_true rfl) (Nat.le_of_ble_eq_true rfl) (Nat.zero_le _) (Nat.zero_le _) dX11_meets_74 (sp_kI fun v74 m74 hp74 => ?_)
              obtain ⟨hp74, hp74m⟩ := hp74; replace hp74m := (hp74m).symm; subst hp74m
              have hal := sp_al_pu hI.J hnmm hnmm2 hnv1 hnv2 hR2
              rw [propext hal] at hp74
              refine sp_if_ne X (pc := 77) (tgt := 82) dX11_meets_77 (by decide) (fun hb77 => ?_) (fun hb77 => ?_)
              · refine sp_iinc X (pc := 82) (v := nI (i + 1)) (lv' := [(5, false, .int (nI (i + 1))), (0, false, va_rf (some (A 17))), (3, false, va_rf (some ra20)), (4, false, va_rf (some ra25))]) dX11_meets_82 rfl (nI_1 i) (by decide) rfl ?_
                refine sp_goto X (pc := 85) (tgt := 48) dX11_meets_85 (by decide) ?_
                refine sp_pick X [1, 2, 3, 0] (lv' := [(0, false, va_rf (some (A 17))), (3, false, va_rf (some ra20)), (4, false, va_rf (some ra25)), (5, false, .int (nI (i + 1)))]) rfl ?_
                exact ih (n9 - (i + 1)) (by omega) (i + 1) (by omega) (fun q hq => by
                  rcases Nat.lt_or_ge q i with z | z
                  · exact hall q z
                  · obtain rfl : q = i := by omega
                    exact hp74.ne hb77) rfl
              · refine sp_iconst X (pc := 80) (v := 0) dX11_meets_80 (by decide) ?_
                refine sp_ireturn X (pc := 81) dX11_meets_81 rfl ⟨_, rfl, ?_⟩
                exact ⟨Or.inr ⟨j, k, hj, hja, hk, hka, sp_bo.f (fun z => hp74.eq hb77 (z.2 i (by omega)))⟩, rfl⟩
        refine sp_pick X [3, 2, 1, 0] (lv' := [(0, false, va_rf (some (A 17))), (3, false, va_rf (some ra20)), (4, false, va_rf (some ra25)), (5, false, .int 0)]) rfl ?_
        exact loop48 _ 0 (Nat.zero_le _) (fun q z => absurd z (Nat.not_lt_zero _)) rfl
      · have h98 : ¬ n9 = n8 := fun z => hb40 (by rw [z])
        refine sp_iconst X (pc := 43) (v := 0) dX11_meets_43 (by decide) ?_
        refine sp_ireturn X (pc := 44) dX11_meets_44 rfl ⟨_, rfl, ?_⟩
        exact ⟨Or.inr ⟨j, k, hj, hja, hk, hka, sp_bo.f (fun z => h98 (by rw [g9, g8]; exact z.1))⟩, rfl⟩
    · have hno : ¬ (∃ j, j < p ∧ a = nI j) ∨ ¬ (∃ j, j < p ∧ b = nI j) := Or.inr (fun ⟨j, q1, q2⟩ => by
          rcases hp14 with ⟨j, b2, z1, z2, z3, z4, z5⟩ | ⟨z, -⟩
          · rw [z3] at hb25; cases hb25
          · exact sp_vno z (by omega) ⟨_, q1, q2⟩)
      refine sp_bipush X (pc := 28) (v := (-7)) dX11_meets_28 (by decide) ?_
      refine sp_ireturn X (pc := 30) dX11_meets_30 rfl ⟨_, rfl, ?_⟩
      exact ⟨Or.inl ⟨hno, rfl⟩, rfl⟩

def sp_mo (m : sp_M) (ed s : Nat) (i : Int32) (v : Option Nat) : Prop := (∃ j b, j < s ∧ i = nI j ∧ v = some b ∧ m.aR ed j = some b) ∨ ((¬ ∃ j, j < s ∧ i = nI j) ∧ v = none)
set_option maxRecDepth 20000 in
theorem c_SP_otherOf (l : Launch) (G : sp_G) (m : sp_M) {P : Nat → Prop} {A : Nat → Nat} (hG : sp_GS G) (hI : sp_I G P A m) {kd wi : Int32} {r : Option Nat} {e2 s2 e3 s3 : Nat} (li2 : sp_li G m (A 2) e2 s2) (li3 : sp_li G m (A 3) e3 s3) (hr : ∀ b, r = some b → m.ty b = 8) : sp_C l G M_SP_otherOf 0 0 [.ref (A 17), .int kd, .int wi, va_rf r] m (sp_oR fun v m' => ((∀ b, v = some b → m.ty b = 8) ∧ ((kd = 2 ∧ sp_mo m e3 s3 wi v) ∨ (kd = 3 ∧ sp_mo m e2 s2 wi v) ∨ (¬ kd = 2 ∧ ¬ kd = 3 ∧ v = r))) ∧ m' = m) := by
  refine sp_enter (lv0 := [(0, false, va_rf (some (A 17))), (1, false, .int kd), (2, false, .int wi), (3, false, va_rf r)]) "SafePaths" false rfl (by decide) (fun h => by cases h) (by simp [lg_sl, sp_cat_rf, sp_cat_i, sp_cat_l, sp_cat_ref]) (by simp [sp_args, sp_cat_rf, sp_cat_i, sp_cat_l, sp_beq12, sp_beq22, sp_cat_ref, sp_rf_some]; done) ?_
  intro w X
  have hS := hI.S
  have t2 := hS.k 2 1 (by decide)
  have t3 := hS.k 3 1 (by decide)
  have t17 := hS.k 17 13 (by decide)
  have el2 : ∀ j, j < s2 → ∃ b, m.aR e2 j = some b ∧ m.ty b = 8 := fun j hj => by
    obtain ⟨b, q1, q2⟩ := (hI.J.el li2 (sp_e0 _)).2 j hj
    rw [(hS.2.2.1 2 (by unfold sp_ix; omega)).1] at q2
    exact ⟨b, q1, q2.1⟩
  have el3 : ∀ j, j < s3 → ∃ b, m.aR e3 j = some b ∧ m.ty b = 8 := fun j hj => by
    obtain ⟨b, q1, q2⟩ := (hI.J.el li3 (sp_e0 _)).2 j hj
    rw [(hS.2.2.1 3 (by unfold sp_ix; omega)).1] at q2
    exact ⟨b, q1, q2.1⟩
  have h29 : s2 < 2 ^ 31 := by have := li2.2.2.2.1; have := li2.2.2.2.2.1; omega
  have h39 : s3 < 2 ^ 31 := by have := li3.2.2.2.1; have := li3.2.2.2.2.1; omega
  refine sp_iload_n X (pc := 0) (x := kd) dX11_otherOf_0 rfl rfl ?_
  refine sp_iconst X (pc := 1) (v := 2) dX11_otherOf_1 (by decide) ?_
  refine sp_icmp_ne X (pc := 2) (tgt := 14) dX11_otherOf_2 (by decide) (fun hb2 => ?_) (fun hb2 => ?_)
  · refine sp_iload_n X (pc := 14) (x := kd) dX11_otherOf_14 rfl rfl ?_
    refine sp_iconst X (pc := 15) (v := 3) dX11_otherOf_15 (by decide) ?_
    refine sp_icmp_ne X (pc := 16) (tgt := 30) dX11_otherOf_16 (by decide) (fun hb16 => ?_) (fun hb16 => ?_)
    · refine sp_aload_n X (pc := 30) (r := r) dX11_otherOf_30 rfl rfl ?_
      refine sp_areturn X (pc := 31) (by first | exact Or.inl ⟨_, rfl⟩ | exact Or.inr ⟨_, rfl⟩) dX11_otherOf_31 ⟨_, rfl, ?_⟩
      first | exact ⟨⟨hx24, Or.inr (Or.inl ⟨hb16, (by
            rcases hp24 with ⟨j, b2, z1, z2, z3, z4, z5⟩ | ⟨z1, z2⟩
            · exact Or.inl ⟨j, b2, z1, z2, z3, z4⟩
            · exact Or.inr ⟨sp_vno z1 (by omega), z2⟩)⟩)⟩, rfl⟩ | exact ⟨⟨hr, Or.inr (Or.inr ⟨hb2, hb16, rfl⟩)⟩, rfl⟩
    · refine sp_aload_n X (pc := 19) (r := some (A 17)) dX11_otherOf_19 rfl rfl ?_
      refine sp_getfield X (pc := 20) (c := 12) (i := 2) (t := 2) (a := (A 17)) (v := va_rf (some (A 2))) rfl (by first | assumption | omega) (by decide) rfl (congrArg va_rf (hS.p 770 17 2 (by decide))) fl_SP_28 dX11_otherOf_20 ?_
      refine sp_iload_n X (pc := 23) (x := wi) dX11_otherOf_23 rfl rfl ?_
      refine sp_callS X (pc := 24) (mc := 0) (ms := 0) (As := [va_rf (some (A 2)), .int wi]) (rest := []) (c_SP_memberOf l G _ (r := 0) li2 el2 h29) ok_SP_memberOf lk_SP_97 rfl rfl (Nat.zero_le _) (Nat.le_of_ble_eq_true rfl) (Nat.le_of_ble_eq_true rfl) (Nat.zero_le _) (Nat.zero_le _) dX11_otherOf_24 (sp_kR fun v24 m24 hp24 => ?_)
      obtain ⟨hp24, hp24m⟩ := hp24; replace hp24m := (hp24m).symm; subst hp24m
      have hx24 : ∀ b, v24 = some b → m.ty b = 8 := fun b hb => by
        rcases hp24 with ⟨j, b2, z1, z2, z3, z4, z5⟩ | ⟨-, z⟩
        · rw [z3] at hb; cases hb; exact z5
        · rw [z] at hb; cases hb
      refine sp_goto X (pc := 27) (tgt := 31) dX11_otherOf_27 (by decide) ?_
      refine sp_areturn X (pc := 31) (by first | exact Or.inl ⟨_, rfl⟩ | exact Or.inr ⟨_, rfl⟩) dX11_otherOf_31 ⟨_, rfl, ?_⟩
      first | exact ⟨⟨hx24, Or.inr (Or.inl ⟨hb16, (by
            rcases hp24 with ⟨j, b2, z1, z2, z3, z4, z5⟩ | ⟨z1, z2⟩
            · exact Or.inl ⟨j, b2, z1, z2, z3, z4⟩
            · exact Or.inr ⟨sp_vno z1 (by omega), z2⟩)⟩)⟩, rfl⟩ | exact ⟨⟨hr, Or.inr (Or.inr ⟨hb2, hb16, rfl⟩)⟩, rfl⟩
  · refine sp_aload_n X (pc := 5) (r := some (A 17)) dX11_otherOf_5 rfl rfl ?_
    refine sp_getfield X (pc := 6) (c := 12) (i := 3) (t := 2) (a := (A 17)) (v := va_rf (some (A 3))) rfl (by first | assumption | omega) (by decide) rfl (congrArg va_rf (hS.p 771 17 3 (by decide))) fl_SP_32 dX11_otherOf_6 ?_
    refine sp_iload_n X (pc := 9) (x := wi) dX11_otherOf_9 rfl rfl ?_
    refine sp_callS X (pc := 10) (mc := 0) (ms := 0) (As := [va_rf (some (A 3)), .int wi]) (rest := []) (c_SP_memberOf l G _ (r := 0) li3 el3 h39) ok_SP_memberOf lk_SP_97 rfl rfl (Nat.zero_le _) (Nat.le_of_ble_eq_true rfl) (Nat.le_of_ble_eq_true rfl) (Nat.zero_le _) (Nat.zero_le _) dX11_otherOf_10 (sp_kR fun v10 m10 hp10 => ?_)
    obtain ⟨hp10, hp10m⟩ := hp10; replace hp10m := (hp10m).symm; subst hp10m
    have hx10 : ∀ b, v10 = some b → m.ty b = 8 := fun b hb => by
      rcases hp10 with ⟨j, b2, z1, z2, z3, z4, z5⟩ | ⟨-, z⟩
      · rw [z3] at hb; cases hb; exact z5
      · rw [z] at hb; cases hb
    refine sp_areturn X (pc := 13) (by first | exact Or.inl ⟨_, rfl⟩ | exact Or.inr ⟨_, rfl⟩) dX11_otherOf_13 ⟨_, rfl, ?_⟩
    exact ⟨⟨hx10, Or.inl ⟨hb2, (by
          rcases hp10 with ⟨j, b2, z1, z2, z3, z4, z5⟩ | ⟨z1, z2⟩
          · exact Or.inl ⟨j, b2, z1, z2, z3, z4⟩
          · exact Or.inr ⟨sp_vno z1 (by omega), z2⟩)⟩⟩, rfl⟩
set_option maxRecDepth 20000 in
theorem c_SP_node (l : Launch) (G : sp_G) (m : sp_M) {P : Nat → Prop} {A : Nat → Nat} (hG : sp_GS G) (hI : sp_I G P A m) {a b : Int32} : sp_C l G M_SP_node 0 0 [.ref (A 17), .int a, .int b] m (sp_oI fun v m' => True ∧ m' = m) := by
  refine sp_enter (lv0 := [(0, false, va_rf (some (A 17))), (1, false, .int a), (2, false, .int b)]) "SafePaths" false rfl (by decide) (fun h => by cases h) (Nat.le_of_ble_eq_true rfl) rfl ?_
  intro w X
  have hS := hI.S
  have t5 := hS.k 5 11 (by decide)
  have t17 := hS.k 17 13 (by decide)
  refine sp_aload_n X (pc := 0) (r := some (A 17)) dX11_node_0 rfl rfl ?_
  refine sp_getfield X (pc := 1) (c := 12) (i := 5) (t := 2) (a := (A 17)) (v := va_rf (some (A 5))) rfl (by first | assumption | omega) (by decide) rfl (congrArg va_rf (hS.p 773 17 5 (by decide))) fl_SP_43 dX11_node_1 ?_
  refine sp_iload_n X (pc := 4) (x := a) dX11_node_4 rfl rfl ?_
  refine sp_callV X (pc := 5) (mc := 0) (ms := 0) (b := (A 5)) (c := 10) (r := (some (A 5))) (As := [.int a]) (rest := []) (c_Tree_at l G _ hI.J hI.tr) ok_Tree_at rfl t5 (by decide) rfl lk_SP_161 rfl rfl (Nat.zero_le _) (Nat.le_of_ble_eq_true rfl) (Nat.le_of_ble_eq_true rfl) (Nat.zero_le _) (Nat.zero_le _) dX11_node_5 (sp_kR fun v5 m5 hp5 => ?_)
  obtain ⟨hp5, hp5m⟩ := hp5; replace hp5m := (hp5m).symm; subst hp5m
  have hx5 : ∀ b, v5 = some b → m.ty b = 6 := fun b hb => by
    obtain ⟨ed, s, -, h⟩ := hp5
    rcases h with ⟨j, b2, z1, z2, z3, z4, z5⟩ | ⟨-, z⟩
    · rw [z3] at hb; cases hb; exact z5
    · rw [z] at hb; cases hb
  refine sp_astore_n X (pc := 8) (lv' := [(3, false, va_rf v5), (0, false, va_rf (some (A 17))), (1, false, .int a), (2, false, .int b)]) dX11_node_8 rfl (by decide) rfl ?_
  refine sp_aload_n X (pc := 9) (r := v5) dX11_node_9 rfl rfl ?_
  refine sp_ifnonnull X (pc := 10) (tgt := 16) dX11_node_10 (by decide) (fun ra10 hb10 => ?_) (fun hb10 => ?_)
  · have hnt := hx5 _ hb10
    obtain ⟨hd1, ⟨nb, hnb, hnbt⟩, hd3, hd4⟩ := hI.J.2.2.2.2.1 _ hnt (sp_e0 _)
    obtain ⟨nbb, nbs, hnmb, -⟩ := hI.J.nm hnbt (sp_e0 _)
    subst hb10
    refine sp_iload_n X (pc := 16) (x := b) dX11_node_16 rfl rfl ?_
    rcases sp_sw b 3 (by decide) with hsw17 | ⟨jsw, hjsw, hsw17⟩
    · refine sp_tableOut X (pc := 17) (tgt := 78) dX11_node_17 (by omega) (by decide) ?_
      refine sp_bipush X (pc := 78) (v := (-7)) dX11_node_78 (by decide) ?_
      refine sp_ireturn X (pc := 80) dX11_node_80 rfl ⟨_, rfl, ?_⟩
      exact ⟨trivial, rfl⟩
    · have hsw2 : jsw = 0 ∨ jsw = 1 ∨ jsw = 2 ∨ jsw = 3 := by omega
      rcases hsw2 with rfl | rfl | rfl | rfl
      · refine sp_tableIn X (pc := 17) (off := 31) (tgt := 48) dX11_node_17 (by rw [hsw17]; decide) (by rw [hsw17]; decide) (by rw [hsw17]; decide) (by decide) ?_
        refine sp_aload_n X (pc := 48) (r := (some ra10)) dX11_node_48 rfl rfl ?_
        refine sp_callV X (pc := 49) (mc := 0) (ms := 0) (b := ra10) (c := 5) (r := (some ra10)) (As := []) (rest := []) (c_Node_state l G _ hnt) ok_Node_state rfl hnt (by decide) rfl lk_SP_192 rfl rfl (Nat.zero_le _) (Nat.le_of_ble_eq_true rfl) (Nat.le_of_ble_eq_true rfl) (Nat.zero_le _) (Nat.zero_le _) dX11_node_49 (sp_kI fun v49 m49 hp49 => ?_)
        obtain ⟨hp49, hp49m⟩ := hp49; replace hp49m := (hp49m).symm; subst hp49m
        refine sp_ireturn X (pc := 52) dX11_node_52 rfl ⟨_, rfl, ?_⟩
        exact ⟨trivial, rfl⟩
      · refine sp_tableIn X (pc := 17) (off := 36) (tgt := 53) dX11_node_17 (by rw [hsw17]; decide) (by rw [hsw17]; decide) (by rw [hsw17]; decide) (by decide) ?_
        refine sp_aload_n X (pc := 53) (r := (some ra10)) dX11_node_53 rfl rfl ?_
        refine sp_callV X (pc := 54) (mc := 0) (ms := 0) (b := ra10) (c := 5) (r := (some ra10)) (As := []) (rest := []) (c_Node_up l G _ hnt) ok_Node_up rfl hnt (by decide) rfl lk_SP_180 rfl rfl (Nat.zero_le _) (Nat.le_of_ble_eq_true rfl) (Nat.le_of_ble_eq_true rfl) (Nat.zero_le _) (Nat.zero_le _) dX11_node_54 (sp_kR fun v54 m54 hp54 => ?_)
        obtain ⟨hp54v, hp54⟩ := hp54; replace hp54 := (hp54).symm; subst hp54; replace hp54v := (hp54v).symm; subst hp54v
        obtain ⟨u, hu, hut⟩ := sp_up6 hI.J hnt
        rw [hu]
        refine sp_getfield X (pc := 57) (c := 5) (i := 0) (t := 0) (a := u) (v := .int (m.fI 320 u)) rfl hut (by decide) rfl rfl fl_SP_174 dX11_node_57 ?_
        refine sp_ireturn X (pc := 60) dX11_node_60 rfl ⟨_, rfl, ?_⟩
        exact ⟨trivial, rfl⟩
      · refine sp_tableIn X (pc := 17) (off := 44) (tgt := 61) dX11_node_17 (by rw [hsw17]; decide) (by rw [hsw17]; decide) (by rw [hsw17]; decide) (by decide) ?_
        refine sp_aload_n X (pc := 61) (r := some (A 17)) dX11_node_61 rfl rfl ?_
        refine sp_getfield X (pc := 62) (c := 12) (i := 5) (t := 2) (a := (A 17)) (v := va_rf (some (A 5))) rfl (by first | assumption | omega) (by decide) rfl (congrArg va_rf (hS.p 773 17 5 (by decide))) fl_SP_43 dX11_node_62 ?_
        refine sp_aload_n X (pc := 65) (r := (some ra10)) dX11_node_65 rfl rfl ?_
        refine sp_callV X (pc := 66) (mc := 0) (ms := 0) (b := (A 5)) (c := 10) (r := (some (A 5))) (As := [va_rf (some ra10)]) (rest := []) (c_Tree_contentOf l G _ hI.J hI.tr hnt) ok_Tree_contentOf rfl t5 (by decide) rfl lk_SP_195 rfl rfl (Nat.zero_le _) (Nat.le_of_ble_eq_true rfl) (Nat.le_of_ble_eq_true rfl) (Nat.zero_le _) (Nat.zero_le _) dX11_node_66 (sp_kI fun v66 m66 hp66 => ?_)
        obtain ⟨hp66, hp66m⟩ := hp66; replace hp66m := (hp66m).symm; subst hp66m
        refine sp_ireturn X (pc := 69) dX11_node_69 rfl ⟨_, rfl, ?_⟩
        exact ⟨trivial, rfl⟩
      · refine sp_tableIn X (pc := 17) (off := 53) (tgt := 70) dX11_node_17 (by rw [hsw17]; decide) (by rw [hsw17]; decide) (by rw [hsw17]; decide) (by decide) ?_
        refine sp_aload_n X (pc := 70) (r := (some ra10)) dX11_node_70 rfl rfl ?_
        refine sp_getfield X (pc := 71) (c := 5) (i := 2) (t := 2) (a := ra10) (v := va_rf (some nb)) rfl hnt (by decide) rfl (congrArg va_rf hnb) fl_SP_199 dX11_node_71 ?_
        refine sp_callV X (pc := 74) (mc := 0) (ms := 0) (b := nb) (c := 4) (r := (some nb)) (As := []) (rest := []) (c_Name_length l G _ hnmb) ok_Name_length rfl hnbt (by decide) rfl lk_SP_203 rfl rfl (Nat.zero_le _) (Nat.le_of_ble_eq_true rfl) (Nat.le_of_ble_eq_true rfl) (Nat.zero_le _) (Nat.zero_le _) dX11_node_74 (sp_kI fun v74 m74 hp74 => ?_)
        obtain ⟨hp74v, hp74⟩ := hp74; replace hp74 := (hp74).symm; subst hp74; replace hp74v := (hp74v).symm; subst hp74v
        refine sp_ireturn X (pc := 77) dX11_node_77 rfl ⟨_, rfl, ?_⟩
        exact ⟨trivial, rfl⟩
  · refine sp_bipush X (pc := 13) (v := (-7)) dX11_node_13 (by decide) ?_
    refine sp_ireturn X (pc := 15) dX11_node_15 rfl ⟨_, rfl, ?_⟩
    exact ⟨trivial, rfl⟩

/-- the entries by value -/
def sp_cE (G : sp_G) (m : sp_M) (A : Nat → Nat) (R : Int32) (PT : Nat → List (List Int32)) (TT : Nat → List Int32) (ne : Nat) (E : pu_E) : Prop := ∃ e4, sp_li G m (A 4) e4 ne ∧ ∀ j, j < ne → ∃ ea p o, m.aR e4 j = some ea ∧ m.ty ea = 4 ∧ m.fI 192 ea = E.K j ∧ m.fR 193 ea = some p ∧ m.fR 194 ea = some o ∧ m.fI 195 ea = E.W j ∧ m.fL 196 ea = E.S j ∧ sp_pv G m p (E.P j) (PT (E.P j)) ∧ (E.K j = 2 → sp_tv G m R o (E.X j) (TT (E.X j))) ∧ (¬ E.K j = 2 → sp_pv G m o (E.X j) (PT (E.X j)))
theorem sp_ix4' : sp_ix 4 := by unfold sp_ix; omega
theorem sp_cE.F {G : sp_G} {P : Nat → Prop} {m m' : sp_M} {A : Nat → Nat} {Q : Nat → Prop} {R : Int32} {PT : Nat → List (List Int32)} {TT : Nat → List Int32} {ne : Nat} {E : pu_E} (h : sp_cE G m A R PT TT ne E) (hI : sp_I G P A m) (hF : sp_F m m' A Q) (h4 : ¬ Q 4) : sp_cE G m' A R PT TT ne E := by
  obtain ⟨e4, l1, l2⟩ := h
  have q := hF.el hI sp_ix4' h4 l1
  refine ⟨e4, q.1, fun j hj => ?_⟩
  obtain ⟨ea, p, o, c1, c2, c3, c4, c5, c6, c7, c8, c9, c10⟩ := l2 j hj
  have hl : ea < m.nx := hI.wf _ (by omega)
  exact ⟨ea, p, o, by rw [q.2.1]; exact c1, hF.ty hI.wf c2 (by decide), by rw [hF.2.2.1 _ _ hl (by rintro (z | z); omega; omega)]; exact c3, by rw [hF.R hl (by decide)]; exact c4, by rw [hF.R hl (by decide)]; exact c5, by rw [hF.2.2.1 _ _ hl (by rintro (z | z); omega; omega)]; exact c6, by rw [hF.L hl (fun z => by omega)]; exact c7, c8.F hI hF, fun z => (c9 z).F hI hF, fun z => (c10 z).F hI hF⟩
/-- what judge needs of an entry -/
theorem sp_cE.other {G : sp_G} {m : sp_M} {R : Int32} {PT : Nat → List (List Int32)} {TT : Nat → List Int32} {kd : Int32} {X nt0 o : Nat} (h2 : kd = 2 → sp_tv G m R o X (TT X)) (h3 : ¬ kd = 2 → sp_pv G m o X (PT X)) (hx : kd = 2 → X < nt0) (hTT : ∀ t, t < nt0 → (TT t).length ≤ 40) : ∃ ou, sp_pv G m o X ou ∧ (kd = 2 → ou = pu_tp R TT X ∧ ou.length ≤ 20 ∧ sp_bo (m.fI 449 o) (pu_tf R TT X)) ∧ (¬ kd = 2 → ou = PT X) := by
  by_cases z : kd = 2
  · obtain ⟨us, a1, a2, a3⟩ := h2 z
    exact ⟨us, a2, fun _ => ⟨(pu_tp.eq a1).symm, a1.few (hTT X (hx z)), a3⟩, fun w => absurd z w⟩
  · exact ⟨_, h3 z, fun w => absurd w z, fun _ => rfl⟩
theorem sp_cZ.pI6 {G : sp_G} {P : Nat → Prop} {m : sp_M} {A : Nat → Nat} {R : Int32} {TT : Nat → List Int32} {Z : pu_Z} {NA BA : Nat → Nat} {a : Nat} {v : Int32} (h : sp_cZ G m A R TT Z NA BA) (hI : sp_I G P A m) : sp_cZ G (m.pI 776 a v) A R TT Z NA BA :=
  h.F hI (Q := fun j => j = 776) ((sp_F.refl m A _).pI rfl (by decide)) (by decide)
theorem sp_swn {a k : Int32} {h : Nat} (hs : a.toInt < 0 ∨ (h : Int) < a.toInt) (hk : ¬ (k.toInt < 0 ∨ (h : Int) < k.toInt)) : ¬ a = k := fun z => hk (z ▸ hs)
theorem pu_rc.le {R : Int32} {n : Nat} {T : pu_N} {le le' : Prop} {f : Nat} {us : List (List Int32)} {o : Option Nat} (h : pu_rc R n T le f us o) (e : le ↔ le') : pu_rc R n T le' f us o := by
  rw [← propext e]; exact h
set_option maxRecDepth 20000 in
theorem c_SP_find (l : Launch) (G : sp_G) (m : sp_M) {P : Nat → Prop} {A : Nat → Nat} (hG : sp_GS G) (hI : sp_I G P A m) {R : Int32} {TT : Nat → List Int32} {Z : pu_Z} {nt0 : Nat} {NA BA : Nat → Nat} (hZ : sp_cZ G m A R TT Z NA BA) (hZW : pu_ZW nt0 Z) {a : Int32} {p : Nat} {PT : Nat → List (List Int32)} (hcP : sp_cP G m A p PT) (hp6 : p ≤ 60) (hcR : sp_cR m A R) : sp_C l G M_SP_find 0 0 [.ref (A 17), .int a] m (sp_oI fun v m' => pu_find v R Z.n Z.T p PT a ∧ m' = m) := by
  refine sp_enter (lv0 := [(0, false, va_rf (some (A 17))), (1, false, .int a)]) "SafePaths" false rfl (by decide) (fun h => by cases h) (Nat.le_of_ble_eq_true rfl) rfl ?_
  intro w X
  have hS := hI.S
  have t2 := hS.k 2 1 (by decide)
  have t5 := hS.k 5 11 (by decide)
  have t17 := hS.k 17 13 (by decide)
  obtain ⟨-, e2, s2, li2, lo2⟩ := hS.2.2.1 2 (by unfold sp_ix; omega)
  obtain ⟨-, e3, s3, li3, lo3⟩ := hS.2.2.1 3 (by unfold sp_ix; omega)
  have el2 : ∀ j, j < s2 → ∃ b, m.aR e2 j = some b ∧ m.ty b = 8 := fun j hj => by
    obtain ⟨b, q1, q2⟩ := (hI.J.el li2 (sp_e0 _)).2 j hj
    rw [(hS.2.2.1 2 (by unfold sp_ix; omega)).1] at q2
    exact ⟨b, q1, q2.1⟩
  have el3 : ∀ j, j < s3 → ∃ b, m.aR e3 j = some b ∧ m.ty b = 8 := fun j hj => by
    obtain ⟨b, q1, q2⟩ := (hI.J.el li3 (sp_e0 _)).2 j hj
    rw [(hS.2.2.1 3 (by unfold sp_ix; omega)).1] at q2
    exact ⟨b, q1, q2.1⟩
  have h29 : s2 < 2 ^ 31 := by have := li2.2.2.2.1; have := li2.2.2.2.2.1; omega
  have h39 : s3 < 2 ^ 31 := by have := li3.2.2.2.1; have := li3.2.2.2.2.1; omega
  obtain ⟨e9, l9, hcP2⟩ := hcP
  obtain ⟨rfl, rfl⟩ := sp_sz_fun l9 li2
  obtain ⟨hN, hcB, hcQ, hmd, hsz5⟩ := id hZ
  obtain ⟨hW, hQ, hbn⟩ := id hZW
  have hn2 := hW.1
  refine sp_aload_n X (pc := 0) (r := some (A 17)) dX11_find_0 rfl rfl ?_
  refine sp_getfield X (pc := 1) (c := 12) (i := 2) (t := 2) (a := (A 17)) (v := va_rf (some (A 2))) rfl (by first | assumption | omega) (by decide) rfl (congrArg va_rf (hS.p 770 17 2 (by decide))) fl_SP_28 dX11_find_1 ?_
  refine sp_iload_n X (pc := 4) (x := a) dX11_find_4 rfl rfl ?_
  refine sp_callS X (pc := 5) (mc := 0) (ms := 0) (As := [va_rf (some (A 2)), .int a]) (rest := []) (c_SP_memberOf l G _ (r := 0) li2 el2 h29) ok_SP_memberOf lk_SP_97 rfl rfl (Nat.zero_le _) (Nat.le_of_ble_eq_true rfl) (Nat.le_of_ble_eq_true rfl) (Nat.zero_le _) (Nat.zero_le _) dX11_find_5 (sp_kR fun v5 m5 hp5 => ?_)
  obtain ⟨hp5, hp5m⟩ := hp5; replace hp5m := (hp5m).symm; subst hp5m
  have hx5 : ∀ b, v5 = some b → m.ty b = 8 := fun b hb => by
    rcases hp5 with ⟨j, b2, z1, z2, z3, z4, z5⟩ | ⟨-, z⟩
    · rw [z3] at hb; cases hb; exact z5
    · rw [z] at hb; cases hb
  refine sp_astore_n X (pc := 8) (lv' := [(2, false, va_rf v5), (0, false, va_rf (some (A 17))), (1, false, .int a)]) dX11_find_8 rfl (by decide) rfl ?_
  refine sp_aload_n X (pc := 9) (r := v5) dX11_find_9 rfl rfl ?_
  refine sp_ifnonnull X (pc := 10) (tgt := 16) dX11_find_10 (by decide) (fun ra10 hb10 => ?_) (fun hb10 => ?_)
  · have hnt := hx5 _ hb10
    obtain ⟨j, hj, hja, hjm⟩ : ∃ j, j < p ∧ a = nI j ∧ m.aR e9 j = some ra10 := by
      rcases hp5 with ⟨j, b2, z1, z2, z3, z4, z5⟩ | ⟨-, z⟩
      · rw [z3] at hb10; cases hb10; exact ⟨j, z1, z2, z4⟩
      · rw [z] at hb10; cases hb10
    obtain ⟨paj, qj, hvj⟩ := hcP2 j hj
    cases hjm.symm.trans qj
    obtain ⟨L9, ed9, n9, hpt9⟩ := hI.J.pt hnt
    subst hb10
    refine sp_aload_n X (pc := 16) (r := some (A 17)) dX11_find_16 rfl rfl ?_
    refine sp_getfield X (pc := 17) (c := 12) (i := 5) (t := 2) (a := (A 17)) (v := va_rf (some (A 5))) rfl (by first | assumption | omega) (by decide) rfl (congrArg va_rf (hS.p 773 17 5 (by decide))) fl_SP_43 dX11_find_17 ?_
    refine sp_aload_n X (pc := 20) (r := (some ra10)) dX11_find_20 rfl rfl ?_
    refine sp_iconst X (pc := 21) (v := 0) dX11_find_21 (by decide) ?_
    refine sp_callV X (pc := 22) (mc := 0) (ms := 0) (b := (A 5)) (c := 10) (r := (some (A 5))) (As := [va_rf (some ra10), .int 0]) (rest := []) (c_Tree_reach l G _ (fl := 0) hI.J hI.tr hN hW hcR.2.1 hpt9 hvj) ok_Tree_reach rfl t5 (by decide) rfl lk_SP_188 rfl rfl (Nat.zero_le _) (Nat.le_of_ble_eq_true rfl) (Nat.le_of_ble_eq_true rfl) (Nat.zero_le _) (Nat.zero_le _) dX11_find_22 (sp_kR fun v22 m22 hp22 => ?_)
    obtain ⟨hp22, hp22m⟩ := hp22; replace hp22m := (hp22m).symm; subst hp22m
    obtain ⟨o9, ho9, hon9, hv22⟩ := hp22
    have ho8 : pu_rc R Z.n Z.T False 1 (PT j) o9 := ho9.le ⟨fun z => z rfl, fun z => z.elim⟩
    refine sp_astore_n X (pc := 25) (lv' := [(3, false, va_rf v22), (2, false, va_rf (some ra10)), (0, false, va_rf (some (A 17))), (1, false, .int a)]) dX11_find_25 rfl (by decide) rfl ?_
    refine sp_aload_n X (pc := 26) (r := v22) dX11_find_26 rfl rfl ?_
    refine sp_ifnonnull X (pc := 27) (tgt := 35) dX11_find_27 (by decide) (fun ra27 hb27 => ?_) (fun hb27 => ?_)
    · obtain ⟨k9, hk9⟩ : ∃ k9, o9 = some k9 := by
        cases o9 with
        | none => rw [hv22] at hb27; cases hb27
        | some k9 => exact ⟨k9, rfl⟩
      subst hk9
      have hra : ra27 = NA k9 := by rw [hv22] at hb27; exact (Option.some.inj hb27).symm
      subst hra
      have hkn := hon9 k9 rfl
      have hnd := hN.2.2 k9 hkn
      refine sp_aload_n X (pc := 35) (r := v22) dX11_find_35 rfl rfl ?_
      refine sp_getfield X (pc := 36) (c := 5) (i := 0) (t := 0) (a := (NA k9)) (v := .int (m.fI 320 (NA k9))) hb27 hnd.1 (by decide) rfl rfl fl_SP_174 dX11_find_36 ?_
      refine sp_ireturn X (pc := 39) dX11_find_39 rfl ⟨_, rfl, ?_⟩
      first
        | exact ⟨Or.inr ⟨j, hj, hja, o9, ho8, Or.inl ⟨hon, rfl⟩⟩, rfl⟩
        | exact ⟨Or.inr ⟨j, hj, hja, _, ho8, Or.inr ⟨k9, rfl, hnd.2.1⟩⟩, rfl⟩
    · have hon : o9 = none := by
        cases o9 with
        | none => rfl
        | some k9 => rw [hv22] at hb27; cases hb27
      refine sp_bipush X (pc := 30) (v := (-2)) dX11_find_30 (by decide) ?_
      refine sp_goto X (pc := 32) (tgt := 39) dX11_find_32 (by decide) ?_
      refine sp_ireturn X (pc := 39) dX11_find_39 rfl ⟨_, rfl, ?_⟩
      first
        | exact ⟨Or.inr ⟨j, hj, hja, o9, ho8, Or.inl ⟨hon, rfl⟩⟩, rfl⟩
        | exact ⟨Or.inr ⟨j, hj, hja, _, ho8, Or.inr ⟨k9, rfl, hnd.2.1⟩⟩, rfl⟩
  · have hno : ¬ (∃ j, j < p ∧ a = nI j) := fun ⟨j, q1, q2⟩ => by
        rcases hp5 with ⟨j, b2, z1, z2, z3, z4, z5⟩ | ⟨z, -⟩
        · rw [z3] at hb10; cases hb10
        · exact sp_vno z (by omega) ⟨_, q1, q2⟩
    refine sp_bipush X (pc := 13) (v := (-7)) dX11_find_13 (by decide) ?_
    refine sp_ireturn X (pc := 15) dX11_find_15 rfl ⟨_, rfl, ?_⟩
    exact ⟨Or.inl ⟨hno, rfl⟩, rfl⟩
set_option maxRecDepth 20000 in
theorem c_SP_name (l : Launch) (G : sp_G) (m : sp_M) {P : Nat → Prop} {A : Nat → Nat} (hG : sp_GS G) (hI : sp_I G P A m) {R : Int32} {TT : Nat → List Int32} {Z : pu_Z} {nt0 : Nat} {NA BA : Nat → Nat} (hZ : sp_cZ G m A R TT Z NA BA) (hZW : pu_ZW nt0 Z) {a b : Int32} : sp_C l G M_SP_name 0 0 [.ref (A 17), .int a, .int b] m (sp_oI fun v m' => pu_name v Z.n Z.T a b ∧ m' = m) := by
  refine sp_enter (lv0 := [(0, false, va_rf (some (A 17))), (1, false, .int a), (2, false, .int b)]) "SafePaths" false rfl (by decide) (fun h => by cases h) (Nat.le_of_ble_eq_true rfl) rfl ?_
  intro w X
  have hS := hI.S
  have t5 := hS.k 5 11 (by decide)
  have t17 := hS.k 17 13 (by decide)
  obtain ⟨hN, hcB, hcQ, hmd, hsz5⟩ := id hZ
  obtain ⟨hW, hQ, hbn⟩ := id hZW
  have hn2 := hW.1
  refine sp_aload_n X (pc := 0) (r := some (A 17)) dX11_name_0 rfl rfl ?_
  refine sp_getfield X (pc := 1) (c := 12) (i := 5) (t := 2) (a := (A 17)) (v := va_rf (some (A 5))) rfl (by first | assumption | omega) (by decide) rfl (congrArg va_rf (hS.p 773 17 5 (by decide))) fl_SP_43 dX11_name_1 ?_
  refine sp_iload_n X (pc := 4) (x := a) dX11_name_4 rfl rfl ?_
  refine sp_callV X (pc := 5) (mc := 0) (ms := 0) (b := (A 5)) (c := 10) (r := (some (A 5))) (As := [.int a]) (rest := []) (c_Tree_at l G _ hI.J hI.tr) ok_Tree_at rfl t5 (by decide) rfl lk_SP_161 rfl rfl (Nat.zero_le _) (Nat.le_of_ble_eq_true rfl) (Nat.le_of_ble_eq_true rfl) (Nat.zero_le _) (Nat.zero_le _) dX11_name_5 (sp_kR fun v5 m5 hp5 => ?_)
  obtain ⟨hp5, hp5m⟩ := hp5; replace hp5m := (hp5m).symm; subst hp5m
  have hx5 : (∃ j, j < Z.n ∧ a = nI j ∧ v5 = some (NA j)) ∨ ((¬ ∃ j, j < Z.n ∧ a = nI j) ∧ v5 = none) := by
    obtain ⟨ed, s, g1, h⟩ := hp5
    obtain ⟨e9, g2, g3⟩ := hN.1
    obtain ⟨rfl, rfl⟩ := sp_sz_fun g2 g1
    rcases h with ⟨j, b2, z1, z2, z3, z4, z5⟩ | ⟨z1, z⟩
    · refine Or.inl ⟨j, z1, z2, ?_⟩
      rw [z3, ← z4]
      exact g3 j z1
    · exact Or.inr ⟨sp_vno z1 (by omega), z⟩
  refine sp_astore_n X (pc := 8) (lv' := [(3, false, va_rf v5), (0, false, va_rf (some (A 17))), (1, false, .int a), (2, false, .int b)]) dX11_name_8 rfl (by decide) rfl ?_
  refine sp_aload_n X (pc := 9) (r := v5) dX11_name_9 rfl rfl ?_
  refine sp_ifnonnull X (pc := 10) (tgt := 17) dX11_name_10 (by decide) (fun ra10 hb10 => ?_) (fun hb10 => ?_)
  · obtain ⟨j, hj, hja, hjv⟩ : ∃ j, j < Z.n ∧ a = nI j ∧ v5 = some (NA j) := by
      rcases hx5 with z | ⟨-, z⟩
      · exact z
      · rw [z] at hb10; cases hb10
    have hra : ra10 = NA j := by rw [hjv] at hb10; exact (Option.some.inj hb10).symm
    subst hra
    subst hb10
    obtain ⟨nd1, -, -, ⟨nb, hnb, hnbv⟩, -⟩ := hN.2.2 j hj
    obtain ⟨nbb, nbs, hnmb, hul, hub⟩ := id hnbv
    refine sp_aload_n X (pc := 17) (r := (some (NA j))) dX11_name_17 rfl rfl ?_
    refine sp_getfield X (pc := 18) (c := 5) (i := 2) (t := 2) (a := (NA j)) (v := va_rf (some nb)) rfl nd1 (by decide) rfl (congrArg va_rf hnb) fl_SP_199 dX11_name_18 ?_
    refine sp_iload_n X (pc := 21) (x := b) dX11_name_21 rfl rfl ?_
    refine sp_callV X (pc := 22) (mc := 0) (ms := 0) (b := nb) (c := 4) (r := (some nb)) (As := [.int b]) (rest := []) (c_Name_byteAt l G _ hnmb) ok_Name_byteAt rfl hnmb.1 (by decide) rfl lk_SP_105 rfl rfl (Nat.zero_le _) (Nat.le_of_ble_eq_true rfl) (Nat.le_of_ble_eq_true rfl) (Nat.zero_le _) (Nat.zero_le _) dX11_name_22 (sp_kI fun v22 m22 hp22 => ?_)
    obtain ⟨hp22, hp22m⟩ := hp22; replace hp22m := (hp22m).symm; subst hp22m
    refine sp_ireturn X (pc := 25) dX11_name_25 rfl ⟨_, rfl, ?_⟩
    first
      | exact ⟨Or.inr ⟨fun ⟨j, i, q1, q2, _⟩ => hno ⟨j, q1, q2⟩, rfl⟩, rfl⟩
      | (refine ⟨?_, rfl⟩
         rcases hp22 with ⟨z1, z2⟩ | ⟨z1, z2⟩
         · obtain ⟨i, w1, w2, w3⟩ := sp_vin z1
           rw [hul] at w1
           exact Or.inl ⟨j, i, hj, hja, w1, w2, by rw [z2, w3]; exact hub i w1⟩
         · rw [hul] at z1
           refine Or.inr ⟨fun ⟨k, i, q1, q2, q3, q4⟩ => ?_, z2⟩
           obtain rfl := pu_nI (hja.symm.trans q2) (by omega) (by omega)
           exact sp_vno z1 (by have := hnmb.2.2.2.2.2.2; omega) ⟨i, q3, q4⟩)
  · have hno : ¬ ∃ j, j < Z.n ∧ a = nI j := by
      rcases hx5 with ⟨j, -, -, z⟩ | ⟨z, -⟩
      · rw [z] at hb10; cases hb10
      · exact z
    refine sp_iconst X (pc := 13) (v := (-1)) dX11_name_13 (by decide) ?_
    refine sp_goto X (pc := 14) (tgt := 25) dX11_name_14 (by decide) ?_
    refine sp_ireturn X (pc := 25) dX11_name_25 rfl ⟨_, rfl, ?_⟩
    first
      | exact ⟨Or.inr ⟨fun ⟨j, i, q1, q2, _⟩ => hno ⟨j, q1, q2⟩, rfl⟩, rfl⟩
      | (refine ⟨?_, rfl⟩
         rcases hp22 with ⟨z1, z2⟩ | ⟨z1, z2⟩
         · obtain ⟨i, w1, w2, w3⟩ := sp_vin z1
           rw [hul] at w1
           exact Or.inl ⟨j, i, hj, hja, w1, w2, by rw [z2, w3]; exact hub i w1⟩
         · rw [hul] at z1
           refine Or.inr ⟨fun ⟨k, i, q1, q2, q3, q4⟩ => ?_, z2⟩
           obtain rfl := pu_nI (hja.symm.trans q2) (by omega) (by omega)
           exact sp_vno z1 (by have := hnmb.2.2.2.2.2.2; omega) ⟨i, q3, q4⟩)
set_option maxRecDepth 20000 in
theorem c_SP_body (l : Launch) (G : sp_G) (m : sp_M) {P : Nat → Prop} {A : Nat → Nat} (hG : sp_GS G) (hI : sp_I G P A m) {R : Int32} {TT : Nat → List Int32} {Z : pu_Z} {nt0 : Nat} {NA BA : Nat → Nat} (hZ : sp_cZ G m A R TT Z NA BA) (hZW : pu_ZW nt0 Z) {a b : Int32} : sp_C l G M_SP_body 0 0 [.ref (A 17), .int a, .int b] m (sp_oL fun v m' => pu_body v Z a b ∧ m' = m) := by
  refine sp_enter (lv0 := [(0, false, va_rf (some (A 17))), (1, false, .int a), (2, false, .int b)]) "SafePaths" false rfl (by decide) (fun h => by cases h) (Nat.le_of_ble_eq_true rfl) rfl ?_
  intro w X
  have hS := hI.S
  have t5 := hS.k 5 11 (by decide)
  have t17 := hS.k 17 13 (by decide)
  obtain ⟨hN, hcB, hcQ, hmd, hsz5⟩ := id hZ
  obtain ⟨hW, hQ, hbn⟩ := id hZW
  have hn2 := hW.1
  refine sp_aload_n X (pc := 0) (r := some (A 17)) dX11_body_0 rfl rfl ?_
  refine sp_getfield X (pc := 1) (c := 12) (i := 5) (t := 2) (a := (A 17)) (v := va_rf (some (A 5))) rfl (by first | assumption | omega) (by decide) rfl (congrArg va_rf (hS.p 773 17 5 (by decide))) fl_SP_43 dX11_body_1 ?_
  refine sp_iload_n X (pc := 4) (x := a) dX11_body_4 rfl rfl ?_
  refine sp_callV X (pc := 5) (mc := 0) (ms := 0) (b := (A 5)) (c := 10) (r := (some (A 5))) (As := [.int a]) (rest := []) (c_Tree_bodyAt l G _ hI.J hI.tr) ok_Tree_bodyAt rfl t5 (by decide) rfl lk_SP_206 rfl rfl (Nat.zero_le _) (Nat.le_of_ble_eq_true rfl) (Nat.le_of_ble_eq_true rfl) (Nat.zero_le _) (Nat.zero_le _) dX11_body_5 (sp_kR fun v5 m5 hp5 => ?_)
  obtain ⟨hp5, hp5m⟩ := hp5; replace hp5m := (hp5m).symm; subst hp5m
  have hx5 : (∃ j, j < Z.b ∧ a = nI j ∧ v5 = some (BA j)) ∨ ((¬ ∃ j, j < Z.b ∧ a = nI j) ∧ v5 = none) := by
    obtain ⟨ed, s, g1, h⟩ := hp5
    obtain ⟨e9, g2, g3⟩ := hcB.1
    obtain ⟨rfl, rfl⟩ := sp_sz_fun g2 g1
    rcases h with ⟨j, b2, z1, z2, z3, z4, z5⟩ | ⟨z1, z⟩
    · refine Or.inl ⟨j, z1, z2, ?_⟩
      rw [z3, ← z4]
      exact g3 j z1
    · exact Or.inr ⟨sp_vno z1 (by omega), z⟩
  refine sp_astore_n X (pc := 8) (lv' := [(3, false, va_rf v5), (0, false, va_rf (some (A 17))), (1, false, .int a), (2, false, .int b)]) dX11_body_8 rfl (by decide) rfl ?_
  refine sp_aload_n X (pc := 9) (r := v5) dX11_body_9 rfl rfl ?_
  refine sp_ifnonnull X (pc := 10) (tgt := 17) dX11_body_10 (by decide) (fun ra10 hb10 => ?_) (fun hb10 => ?_)
  · obtain ⟨j, hj, hja, hjv⟩ : ∃ j, j < Z.b ∧ a = nI j ∧ v5 = some (BA j) := by
      rcases hx5 with z | ⟨-, z⟩
      · exact z
      · rw [z] at hb10; cases hb10
    have hra : ra10 = BA j := by rw [hjv] at hb10; exact (Option.some.inj hb10).symm
    subst hra
    subst hb10
    obtain ⟨bd1, bd2, bd3, bd4⟩ := hcB.2 j hj
    refine sp_iload_n X (pc := 17) (x := b) dX11_body_17 rfl rfl ?_
    rcases sp_sw b 2 (by decide) with hsw18 | ⟨jsw, hjsw, hsw18⟩
    · refine sp_tableOut X (pc := 18) (tgt := 65) dX11_body_18 (by omega) (by decide) ?_
      refine sp_ldc2 X (pc := 65) (v := (-7)) kl_SP_152 dX11_body_65 ?_
      refine sp_lreturn X (pc := 68) dX11_body_68 ⟨_, rfl, ?_⟩
      exact ⟨Or.inl ⟨Or.inr (by rintro (z | z | z) <;> exact sp_swn hsw18 (by decide) z), rfl⟩, rfl⟩
    · have hsw2 : jsw = 0 ∨ jsw = 1 ∨ jsw = 2 := by omega
      rcases hsw2 with rfl | rfl | rfl
      · refine sp_tableIn X (pc := 18) (off := 26) (tgt := 44) dX11_body_18 (by rw [hsw18]; decide) (by rw [hsw18]; decide) (by rw [hsw18]; decide) (by decide) ?_
        refine sp_aload_n X (pc := 44) (r := (some (BA j))) dX11_body_44 rfl rfl ?_
        refine sp_getfield X (pc := 45) (c := 1) (i := 1) (t := 1) (a := (BA j)) (v := .long (m.fL 65 (BA j))) rfl bd1 (by decide) rfl rfl fl_SP_210 dX11_body_45 ?_
        refine sp_lreturn X (pc := 48) dX11_body_48 ⟨_, rfl, ?_⟩
        exact ⟨Or.inr ⟨j, hj, hja, Or.inl ⟨(hsw18.trans (by decide)), bd3⟩⟩, rfl⟩
      · refine sp_tableIn X (pc := 18) (off := 31) (tgt := 49) dX11_body_18 (by rw [hsw18]; decide) (by rw [hsw18]; decide) (by rw [hsw18]; decide) (by decide) ?_
        refine sp_aload_n X (pc := 49) (r := (some (BA j))) dX11_body_49 rfl rfl ?_
        refine sp_getfield X (pc := 50) (c := 1) (i := 2) (t := 0) (a := (BA j)) (v := .int (m.fI 66 (BA j))) rfl bd1 (by decide) rfl rfl fl_SP_215 dX11_body_50 ?_
        refine sp_i2l X (pc := 53) dX11_body_53 ?_
        refine sp_lreturn X (pc := 54) dX11_body_54 ⟨_, rfl, ?_⟩
        exact ⟨Or.inr ⟨j, hj, hja, Or.inr (Or.inl ⟨(hsw18.trans (by decide)), by rw [bd4]⟩)⟩, rfl⟩
      · refine sp_tableIn X (pc := 18) (off := 37) (tgt := 55) dX11_body_18 (by rw [hsw18]; decide) (by rw [hsw18]; decide) (by rw [hsw18]; decide) (by decide) ?_
        refine sp_aload_n X (pc := 55) (r := some (A 17)) dX11_body_55 rfl rfl ?_
        refine sp_getfield X (pc := 56) (c := 12) (i := 5) (t := 2) (a := (A 17)) (v := va_rf (some (A 5))) rfl (by first | assumption | omega) (by decide) rfl (congrArg va_rf (hS.p 773 17 5 (by decide))) fl_SP_43 dX11_body_56 ?_
        refine sp_aload_n X (pc := 59) (r := (some (BA j))) dX11_body_59 rfl rfl ?_
        refine sp_callV X (pc := 60) (mc := 0) (ms := 0) (b := (A 5)) (c := 10) (r := (some (A 5))) (As := [va_rf (some (BA j))]) (rest := []) (c_Tree_countFilesWith l G _ hI.J hI.tr hN hW hj (hcB.inj (by omega))) ok_Tree_countFilesWith rfl t5 (by decide) rfl lk_SP_218 rfl rfl (Nat.zero_le _) (Nat.le_of_ble_eq_true rfl) (Nat.le_of_ble_eq_true rfl) (Nat.zero_le _) (Nat.zero_le _) dX11_body_60 (sp_kI fun v60 m60 hp60 => ?_)
        obtain ⟨hp60, hp60m⟩ := hp60; replace hp60m := (hp60m).symm; subst hp60m
        have hv60 : v60 = nI (pu_fw Z j) := hp60
        refine sp_i2l X (pc := 63) dX11_body_63 ?_
        refine sp_lreturn X (pc := 64) dX11_body_64 ⟨_, rfl, ?_⟩
        exact ⟨Or.inr ⟨j, hj, hja, Or.inr (Or.inr ⟨(hsw18.trans (by decide)), by rw [hv60]⟩)⟩, rfl⟩
  · have hno : ¬ ∃ j, j < Z.b ∧ a = nI j := by
      rcases hx5 with ⟨j, -, -, z⟩ | ⟨z, -⟩
      · rw [z] at hb10; cases hb10
      · exact z
    refine sp_ldc2 X (pc := 13) (v := (-7)) kl_SP_152 dX11_body_13 ?_
    refine sp_lreturn X (pc := 16) dX11_body_16 ⟨_, rfl, ?_⟩
    exact ⟨Or.inl ⟨Or.inl hno, rfl⟩, rfl⟩
set_option maxRecDepth 20000 in
theorem c_SP_inside (l : Launch) (G : sp_G) (m : sp_M) {P : Nat → Prop} {A : Nat → Nat} (hG : sp_GS G) (hI : sp_I G P A m) {R : Int32} {TT : Nat → List Int32} {Z : pu_Z} {nt0 : Nat} {NA BA : Nat → Nat} (hZ : sp_cZ G m A R TT Z NA BA) (hZW : pu_ZW nt0 Z) : sp_C l G M_SP_inside 0 0 [.ref (A 17)] m (sp_oI fun v m' => v = 1 ∧ m' = m) := by
  refine sp_enter (lv0 := [(0, false, va_rf (some (A 17)))]) "SafePaths" false rfl (by decide) (fun h => by cases h) (Nat.le_of_ble_eq_true rfl) rfl ?_
  intro w X
  have hS := hI.S
  have t5 := hS.k 5 11 (by decide)
  have t17 := hS.k 17 13 (by decide)
  obtain ⟨hN, hcB, hcQ, hmd, hsz5⟩ := id hZ
  obtain ⟨hW, hQ, hbn⟩ := id hZW
  have hn2 := hW.1
  refine sp_aload_n X (pc := 0) (r := some (A 17)) dX11_inside_0 rfl rfl ?_
  refine sp_getfield X (pc := 1) (c := 12) (i := 5) (t := 2) (a := (A 17)) (v := va_rf (some (A 5))) rfl (by first | assumption | omega) (by decide) rfl (congrArg va_rf (hS.p 773 17 5 (by decide))) fl_SP_43 dX11_inside_1 ?_
  refine sp_callV X (pc := 4) (mc := 0) (ms := 0) (b := (A 5)) (c := 10) (r := (some (A 5))) (As := []) (rest := []) (c_Tree_isUntouchedOutside l G _ hI.J hI.tr hN hW) ok_Tree_isUntouchedOutside rfl t5 (by decide) rfl lk_SP_222 rfl rfl (Nat.zero_le _) (Nat.le_of_ble_eq_true rfl) (Nat.le_of_ble_eq_true rfl) (Nat.zero_le _) (Nat.zero_le _) dX11_inside_4 (sp_kI fun v4 m4 hp4 => ?_)
  obtain ⟨hp4, hp4m⟩ := hp4; replace hp4m := (hp4m).symm; subst hp4m
  have hv4 := hp4
  refine sp_if_eq X (pc := 7) (tgt := 24) dX11_inside_7 (by decide) (fun hb7 => ?_) (fun hb7 => ?_)
  · exact absurd (hv4.symm.trans hb7) (by decide) --stop
  · refine sp_aload_n X (pc := 10) (r := some (A 17)) dX11_inside_10 rfl rfl ?_
    refine sp_getfield X (pc := 11) (c := 12) (i := 5) (t := 2) (a := (A 17)) (v := va_rf (some (A 5))) rfl (by first | assumption | omega) (by decide) rfl (congrArg va_rf (hS.p 773 17 5 (by decide))) fl_SP_43 dX11_inside_11 ?_
    refine sp_callV X (pc := 14) (mc := 0) (ms := 0) (b := (A 5)) (c := 10) (r := (some (A 5))) (As := []) (rest := []) (c_Tree_isAllElseBelowRoot l G _ hI hN hW) ok_Tree_isAllElseBelowRoot rfl t5 (by decide) rfl lk_SP_226 rfl rfl (Nat.zero_le _) (Nat.le_of_ble_eq_true rfl) (Nat.le_of_ble_eq_true rfl) (Nat.zero_le _) (Nat.zero_le _) dX11_inside_14 (sp_kI fun v14 m14 hp14 => ?_)
    obtain ⟨hp14, hp14m⟩ := hp14; replace hp14m := (hp14m).symm; subst hp14m
    have hv14 := hp14
    refine sp_if_eq X (pc := 17) (tgt := 24) dX11_inside_17 (by decide) (fun hb17 => ?_) (fun hb17 => ?_)
    · exact absurd (hv14.symm.trans hb17) (by decide) --stop
    · refine sp_iconst X (pc := 20) (v := 1) dX11_inside_20 (by decide) ?_
      refine sp_goto X (pc := 21) (tgt := 25) dX11_inside_21 (by decide) ?_
      refine sp_ireturn X (pc := 25) dX11_inside_25 rfl ⟨_, rfl, ?_⟩
      exact ⟨rfl, rfl⟩
set_option maxRecDepth 20000 in
theorem c_SP_told (l : Launch) (G : sp_G) (m : sp_M) {P : Nat → Prop} {A : Nat → Nat} (hG : sp_GS G) (hI : sp_I G P A m) {R : Int32} {TT : Nat → List Int32} {Z : pu_Z} {nt0 : Nat} {NA BA : Nat → Nat} (hZ : sp_cZ G m A R TT Z NA BA) (hZW : pu_ZW nt0 Z) {a : Int32} {p ne e2 e3 e4 : Nat} (li2 : sp_li G m (A 2) e2 p) (li3 : sp_li G m (A 3) e3 nt0) (li4 : sp_li G m (A 4) e4 ne) : sp_C l G M_SP_told 0 0 [.ref (A 17), .int a] m (sp_oI fun v m' => pu_told v Z p nt0 ne (m.fI 776 (A 17)) a ∧ m' = m) := by
  refine sp_enter (lv0 := [(0, false, va_rf (some (A 17))), (1, false, .int a)]) "SafePaths" false rfl (by decide) (fun h => by cases h) (Nat.le_of_ble_eq_true rfl) rfl ?_
  intro w X
  have hS := hI.S
  have t2 := hS.k 2 1 (by decide)
  have t3 := hS.k 3 1 (by decide)
  have t4 := hS.k 4 1 (by decide)
  have t5 := hS.k 5 11 (by decide)
  have t7 := hS.k 7 10 (by decide)
  have t17 := hS.k 17 13 (by decide)
  obtain ⟨hN, hcB, hcQ, hmd, hsz5⟩ := id hZ
  obtain ⟨hW, hQ, hbn⟩ := id hZW
  have hn2 := hW.1
  obtain ⟨⟨e9, l9, -⟩, -⟩ := id hN
  obtain ⟨⟨e10, l10, -⟩, -⟩ := id hcB
  obtain ⟨e16, l16, -⟩ := id hcQ
  refine sp_iload_n X (pc := 0) (x := a) dX11_told_0 rfl rfl ?_
  rcases sp_sw a 7 (by decide) with hsw1 | ⟨jsw, hjsw, hsw1⟩
  · refine sp_tableOut X (pc := 1) (tgt := 109) dX11_told_1 (by omega) (by decide) ?_
    refine sp_bipush X (pc := 109) (v := (-7)) dX11_told_109 (by decide) ?_
    refine sp_ireturn X (pc := 111) dX11_told_111 rfl ⟨_, rfl, ?_⟩
    exact ⟨Or.inr (Or.inr (Or.inr (Or.inr (Or.inr (Or.inr (Or.inr (Or.inr ⟨⟨sp_swn hsw1 (by decide), sp_swn hsw1 (by decide), sp_swn hsw1 (by decide), sp_swn hsw1 (by decide), sp_swn hsw1 (by decide), sp_swn hsw1 (by decide), sp_swn hsw1 (by decide), sp_swn hsw1 (by decide)⟩, rfl⟩))))))), rfl⟩
  · have hsw2 : jsw = 0 ∨ jsw = 1 ∨ jsw = 2 ∨ jsw = 3 ∨ jsw = 4 ∨ jsw = 5 ∨ jsw = 6 ∨ jsw = 7 := by omega
    rcases hsw2 with rfl | rfl | rfl | rfl | rfl | rfl | rfl | rfl
    · refine sp_tableIn X (pc := 1) (off := 47) (tgt := 48) dX11_told_1 (by rw [hsw1]; decide) (by rw [hsw1]; decide) (by rw [hsw1]; decide) (by decide) ?_
      refine sp_aload_n X (pc := 48) (r := some (A 17)) dX11_told_48 rfl rfl ?_
      refine sp_getfield X (pc := 49) (c := 12) (i := 5) (t := 2) (a := (A 17)) (v := va_rf (some (A 5))) rfl (by first | assumption | omega) (by decide) rfl (congrArg va_rf (hS.p 773 17 5 (by decide))) fl_SP_43 dX11_told_49 ?_
      refine sp_callV X (pc := 52) (mc := 0) (ms := 0) (b := (A 5)) (c := 10) (r := (some (A 5))) (As := []) (rest := []) (c_Tree_nodeCount l G _ hI.tr) ok_Tree_nodeCount rfl t5 (by decide) rfl lk_SP_229 rfl rfl (Nat.zero_le _) (Nat.le_of_ble_eq_true rfl) (Nat.le_of_ble_eq_true rfl) (Nat.zero_le _) (Nat.zero_le _) dX11_told_52 (sp_kI fun v52 m52 hp52 => ?_)
      obtain ⟨hp52v, hp52⟩ := hp52; replace hp52 := (hp52).symm; subst hp52; replace hp52v := (hp52v).symm; subst hp52v
      refine sp_ireturn X (pc := 55) dX11_told_55 rfl ⟨_, rfl, ?_⟩
      exact ⟨Or.inl ⟨(hsw1.trans (by decide)), l9.2.2.1⟩, rfl⟩
    · refine sp_tableIn X (pc := 1) (off := 55) (tgt := 56) dX11_told_1 (by rw [hsw1]; decide) (by rw [hsw1]; decide) (by rw [hsw1]; decide) (by decide) ?_
      refine sp_aload_n X (pc := 56) (r := some (A 17)) dX11_told_56 rfl rfl ?_
      refine sp_getfield X (pc := 57) (c := 12) (i := 5) (t := 2) (a := (A 17)) (v := va_rf (some (A 5))) rfl (by first | assumption | omega) (by decide) rfl (congrArg va_rf (hS.p 773 17 5 (by decide))) fl_SP_43 dX11_told_57 ?_
      refine sp_callV X (pc := 60) (mc := 0) (ms := 0) (b := (A 5)) (c := 10) (r := (some (A 5))) (As := []) (rest := []) (c_Tree_bodyCount l G _ hI.tr) ok_Tree_bodyCount rfl t5 (by decide) rfl lk_SP_232 rfl rfl (Nat.zero_le _) (Nat.le_of_ble_eq_true rfl) (Nat.le_of_ble_eq_true rfl) (Nat.zero_le _) (Nat.zero_le _) dX11_told_60 (sp_kI fun v60 m60 hp60 => ?_)
      obtain ⟨hp60v, hp60⟩ := hp60; replace hp60 := (hp60).symm; subst hp60; replace hp60v := (hp60v).symm; subst hp60v
      refine sp_ireturn X (pc := 63) dX11_told_63 rfl ⟨_, rfl, ?_⟩
      exact ⟨Or.inr (Or.inl ⟨(hsw1.trans (by decide)), l10.2.2.1⟩), rfl⟩
    · refine sp_tableIn X (pc := 1) (off := 63) (tgt := 64) dX11_told_1 (by rw [hsw1]; decide) (by rw [hsw1]; decide) (by rw [hsw1]; decide) (by decide) ?_
      refine sp_aload_n X (pc := 64) (r := some (A 17)) dX11_told_64 rfl rfl ?_
      refine sp_getfield X (pc := 65) (c := 12) (i := 2) (t := 2) (a := (A 17)) (v := va_rf (some (A 2))) rfl (by first | assumption | omega) (by decide) rfl (congrArg va_rf (hS.p 770 17 2 (by decide))) fl_SP_28 dX11_told_65 ?_
      refine sp_callV X (pc := 68) (mc := 0) (ms := 0) (b := (A 2)) (c := 0) (r := (some (A 2))) (As := []) (rest := []) (c_List_size l G _ t2) ok_List_size rfl t2 (by decide) rfl lk_SP_81 rfl rfl (Nat.zero_le _) (Nat.le_of_ble_eq_true rfl) (Nat.le_of_ble_eq_true rfl) (Nat.zero_le _) (Nat.zero_le _) dX11_told_68 (sp_kI fun v68 m68 hp68 => ?_)
      obtain ⟨hp68v, hp68⟩ := hp68; replace hp68 := (hp68).symm; subst hp68; replace hp68v := (hp68v).symm; subst hp68v
      refine sp_ireturn X (pc := 71) dX11_told_71 rfl ⟨_, rfl, ?_⟩
      exact ⟨Or.inr (Or.inr (Or.inl ⟨(hsw1.trans (by decide)), li2.2.2.1⟩)), rfl⟩
    · refine sp_tableIn X (pc := 1) (off := 71) (tgt := 72) dX11_told_1 (by rw [hsw1]; decide) (by rw [hsw1]; decide) (by rw [hsw1]; decide) (by decide) ?_
      refine sp_aload_n X (pc := 72) (r := some (A 17)) dX11_told_72 rfl rfl ?_
      refine sp_getfield X (pc := 73) (c := 12) (i := 3) (t := 2) (a := (A 17)) (v := va_rf (some (A 3))) rfl (by first | assumption | omega) (by decide) rfl (congrArg va_rf (hS.p 771 17 3 (by decide))) fl_SP_32 dX11_told_73 ?_
      refine sp_callV X (pc := 76) (mc := 0) (ms := 0) (b := (A 3)) (c := 0) (r := (some (A 3))) (As := []) (rest := []) (c_List_size l G _ t3) ok_List_size rfl t3 (by decide) rfl lk_SP_81 rfl rfl (Nat.zero_le _) (Nat.le_of_ble_eq_true rfl) (Nat.le_of_ble_eq_true rfl) (Nat.zero_le _) (Nat.zero_le _) dX11_told_76 (sp_kI fun v76 m76 hp76 => ?_)
      obtain ⟨hp76v, hp76⟩ := hp76; replace hp76 := (hp76).symm; subst hp76; replace hp76v := (hp76v).symm; subst hp76v
      refine sp_ireturn X (pc := 79) dX11_told_79 rfl ⟨_, rfl, ?_⟩
      exact ⟨Or.inr (Or.inr (Or.inr (Or.inl ⟨(hsw1.trans (by decide)), li3.2.2.1⟩))), rfl⟩
    · refine sp_tableIn X (pc := 1) (off := 79) (tgt := 80) dX11_told_1 (by rw [hsw1]; decide) (by rw [hsw1]; decide) (by rw [hsw1]; decide) (by decide) ?_
      refine sp_aload_n X (pc := 80) (r := some (A 17)) dX11_told_80 rfl rfl ?_
      refine sp_getfield X (pc := 81) (c := 12) (i := 4) (t := 2) (a := (A 17)) (v := va_rf (some (A 4))) rfl (by first | assumption | omega) (by decide) rfl (congrArg va_rf (hS.p 772 17 4 (by decide))) fl_SP_35 dX11_told_81 ?_
      refine sp_callV X (pc := 84) (mc := 0) (ms := 0) (b := (A 4)) (c := 0) (r := (some (A 4))) (As := []) (rest := []) (c_List_size l G _ t4) ok_List_size rfl t4 (by decide) rfl lk_SP_81 rfl rfl (Nat.zero_le _) (Nat.le_of_ble_eq_true rfl) (Nat.le_of_ble_eq_true rfl) (Nat.zero_le _) (Nat.zero_le _) dX11_told_84 (sp_kI fun v84 m84 hp84 => ?_)
      obtain ⟨hp84v, hp84⟩ := hp84; replace hp84 := (hp84).symm; subst hp84; replace hp84v := (hp84v).symm; subst hp84v
      refine sp_ireturn X (pc := 87) dX11_told_87 rfl ⟨_, rfl, ?_⟩
      exact ⟨Or.inr (Or.inr (Or.inr (Or.inr (Or.inl ⟨(hsw1.trans (by decide)), li4.2.2.1⟩)))), rfl⟩
    · refine sp_tableIn X (pc := 1) (off := 87) (tgt := 88) dX11_told_1 (by rw [hsw1]; decide) (by rw [hsw1]; decide) (by rw [hsw1]; decide) (by decide) ?_
      refine sp_aload_n X (pc := 88) (r := some (A 17)) dX11_told_88 rfl rfl ?_
      refine sp_getfield X (pc := 89) (c := 12) (i := 7) (t := 2) (a := (A 17)) (v := va_rf (some (A 7))) rfl (by first | assumption | omega) (by decide) rfl (congrArg va_rf (hS.p 775 17 7 (by decide))) fl_SP_61 dX11_told_89 ?_
      refine sp_getfield X (pc := 92) (c := 9) (i := 6) (t := 0) (a := (A 7)) (v := .int (m.fI 582 (A 7))) rfl (by first | assumption | omega) (by decide) rfl rfl fl_SP_235 dX11_told_92 ?_
      refine sp_ireturn X (pc := 95) dX11_told_95 rfl ⟨_, rfl, ?_⟩
      exact ⟨Or.inr (Or.inr (Or.inr (Or.inr (Or.inr (Or.inl ⟨(hsw1.trans (by decide)), hmd⟩))))), rfl⟩
    · refine sp_tableIn X (pc := 1) (off := 95) (tgt := 96) dX11_told_1 (by rw [hsw1]; decide) (by rw [hsw1]; decide) (by rw [hsw1]; decide) (by decide) ?_
      refine sp_aload_n X (pc := 96) (r := some (A 17)) dX11_told_96 rfl rfl ?_
      refine sp_getfield X (pc := 97) (c := 12) (i := 8) (t := 0) (a := (A 17)) (v := .int (m.fI 776 (A 17))) rfl (by first | assumption | omega) (by decide) rfl rfl fl_SP_65 dX11_told_97 ?_
      refine sp_ireturn X (pc := 100) dX11_told_100 rfl ⟨_, rfl, ?_⟩
      exact ⟨Or.inr (Or.inr (Or.inr (Or.inr (Or.inr (Or.inr (Or.inl ⟨(hsw1.trans (by decide)), rfl⟩)))))), rfl⟩
    · refine sp_tableIn X (pc := 1) (off := 100) (tgt := 101) dX11_told_1 (by rw [hsw1]; decide) (by rw [hsw1]; decide) (by rw [hsw1]; decide) (by decide) ?_
      refine sp_aload_n X (pc := 101) (r := some (A 17)) dX11_told_101 rfl rfl ?_
      refine sp_getfield X (pc := 102) (c := 12) (i := 7) (t := 2) (a := (A 17)) (v := va_rf (some (A 7))) rfl (by first | assumption | omega) (by decide) rfl (congrArg va_rf (hS.p 775 17 7 (by decide))) fl_SP_61 dX11_told_102 ?_
      refine sp_callV X (pc := 105) (mc := 0) (ms := 0) (b := (A 7)) (c := 9) (r := (some (A 7))) (As := []) (rest := []) (c_Taking_notedCount l G _ hG hI) ok_Taking_notedCount rfl t7 (by decide) rfl lk_SP_238 rfl rfl (Nat.zero_le _) (Nat.le_of_ble_eq_true rfl) (Nat.le_of_ble_eq_true rfl) (Nat.zero_le _) (Nat.zero_le _) dX11_told_105 (sp_kI fun v105 m105 hp105 => ?_)
      obtain ⟨hp105v, hp105⟩ := hp105; replace hp105 := (hp105).symm; subst hp105; replace hp105v := (hp105v).symm; subst hp105v
      refine sp_ireturn X (pc := 108) dX11_told_108 rfl ⟨_, rfl, ?_⟩
      exact ⟨Or.inr (Or.inr (Or.inr (Or.inr (Or.inr (Or.inr (Or.inr (Or.inl ⟨(hsw1.trans (by decide)), l16.2.2.1⟩))))))), rfl⟩
set_option maxRecDepth 20000 in
theorem c_SP_dry (l : Launch) (G : sp_G) (m : sp_M) {P : Nat → Prop} {A : Nat → Nat} (hG : sp_GS G) (hI : sp_I G P A m) {R : Int32} {TT : Nat → List Int32} {Z : pu_Z} {nt0 : Nat} {NA BA : Nat → Nat} (hZ : sp_cZ G m A R TT Z NA BA) (hZW : pu_ZW nt0 Z) {PT : Nat → List (List Int32)} {p ne : Nat} {E : pu_E} (hcR : sp_cR m A R) (hcE : sp_cE G m A R PT TT ne E) (hEW : pu_EW p nt0 ne E) (hP : pu_P p PT) (hTT : ∀ t, t < nt0 → (TT t).length ≤ 40) {a : Int32} : sp_C l G M_SP_dry 6810 27240 [.ref (A 17), .int a] m (sp_oI fun v m' => sp_I G P A m' ∧ sp_F m m' A sp_Tj ∧ pu_dry v R Z PT TT ne E (m.fL 580 (A 7)) (m.fL 581 (A 7)) a) := by
  refine sp_enter (lv0 := [(0, false, va_rf (some (A 17))), (1, false, .int a)]) "SafePaths" false rfl (by decide) (fun h => by cases h) (Nat.le_of_ble_eq_true rfl) rfl ?_
  intro w X
  have hS := hI.S
  have t4 := hS.k 4 1 (by decide)
  have t7 := hS.k 7 10 (by decide)
  have t17 := hS.k 17 13 (by decide)
  obtain ⟨hN, hcB, hcQ, hmd, hsz5⟩ := id hZ
  obtain ⟨hW, hQ, hbn⟩ := id hZW
  have hn2 := hW.1
  have hcE0 := hcE
  obtain ⟨e4, li4, hEL⟩ := hcE
  have h49 : ne < 2 ^ 31 := by have := li4.2.2.2.1; have := li4.2.2.2.2.1; omega
  refine sp_iload_n X (pc := 0) (x := a) dX11_dry_0 rfl rfl ?_
  refine sp_if_lt X (pc := 1) (tgt := 15) dX11_dry_1 (by decide) (fun hb1 => ?_) (fun hb1 => ?_)
  · have hno : ¬ ∃ j, j < ne ∧ a = nI j := by
      rintro ⟨j, z1, z2⟩
      subst z2
      first
        | exact absurd hb1 (nI_pos (by omega))
    refine sp_bipush X (pc := 15) (v := (-7)) dX11_dry_15 (by decide) ?_
    refine sp_ireturn X (pc := 17) dX11_dry_17 rfl ⟨_, rfl, ?_⟩
    exact ⟨hI, sp_F.refl m A sp_Tj, Or.inl ⟨hno, rfl⟩⟩
  · refine sp_iload_n X (pc := 4) (x := a) dX11_dry_4 rfl rfl ?_
    refine sp_aload_n X (pc := 5) (r := some (A 17)) dX11_dry_5 rfl rfl ?_
    refine sp_getfield X (pc := 6) (c := 12) (i := 4) (t := 2) (a := (A 17)) (v := va_rf (some (A 4))) rfl (by first | assumption | omega) (by decide) rfl (congrArg va_rf (hS.p 772 17 4 (by decide))) fl_SP_35 dX11_dry_6 ?_
    refine sp_callV X (pc := 9) (mc := 0) (ms := 0) (b := (A 4)) (c := 0) (r := (some (A 4))) (As := []) (rest := [.int a]) (c_List_size l G _ t4) ok_List_size rfl t4 (by decide) rfl lk_SP_81 rfl rfl (by simp [sp_cat_rf, sp_cat_i, sp_cat_l]) (Nat.le_of_ble_eq_true rfl) (Nat.le_of_ble_eq_true rfl) (Nat.zero_le _) (Nat.zero_le _) dX11_dry_9 (sp_kI fun v9 m9 hp9 => ?_)
    obtain ⟨hp9v, hp9⟩ := hp9; replace hp9 := (hp9).symm; subst hp9; replace hp9v := (hp9v).symm; subst hp9v
    rw [li4.2.2.1]
    refine sp_icmp_lt X (pc := 12) (tgt := 18) dX11_dry_12 (by decide) (fun hb12 => ?_) (fun hb12 => ?_)
    · obtain ⟨j, hj, hij⟩ := sp_idx h49 hb1 (fun z => absurd hb12 (Int32.not_lt.mpr z))
      obtain ⟨ea, pa, oa, k1, k2, k3, k4, k5, k6, k7, k8, k9, k10⟩ := hEL j hj
      obtain ⟨w1, w2, w3, w4, w5⟩ := hEW j hj
      obtain ⟨hp1, hp8, hpu⟩ := hP _ w2
      obtain ⟨ou, v1, v2, v3⟩ := sp_cE.other (PT := PT) k9 k10 (fun z => (w3 z).1) hTT
      obtain ⟨L1, ed1, s1, hpt1⟩ := hI.J.pt k8.1
      obtain ⟨L2, ed2, s2, hpt2⟩ := hI.J.pt v1.1
      have hlea : ea < m.nx := hI.wf ea (by omega)
      subst hij
      refine sp_aload_n X (pc := 18) (r := some (A 17)) dX11_dry_18 rfl rfl ?_
      refine sp_getfield X (pc := 19) (c := 12) (i := 7) (t := 2) (a := (A 17)) (v := va_rf (some (A 7))) rfl (by first | assumption | omega) (by decide) rfl (congrArg va_rf (hS.p 775 17 7 (by decide))) fl_SP_61 dX11_dry_19 ?_
      refine sp_aload_n X (pc := 22) (r := some (A 17)) dX11_dry_22 rfl rfl ?_
      refine sp_getfield X (pc := 23) (c := 12) (i := 4) (t := 2) (a := (A 17)) (v := va_rf (some (A 4))) rfl (by first | assumption | omega) (by decide) rfl (congrArg va_rf (hS.p 772 17 4 (by decide))) fl_SP_35 dX11_dry_23 ?_
      refine sp_iload_n X (pc := 26) (x := (nI j)) dX11_dry_26 rfl rfl ?_
      refine sp_callV X (pc := 27) (mc := 0) (ms := 0) (b := (A 4)) (c := 0) (r := (some (A 4))) (As := [.int (nI j)]) (rest := [va_rf (some (A 7))]) (c_List_get l G _ li4 hj) ok_List_get rfl t4 (by decide) rfl lk_SP_135 rfl rfl (by simp [sp_cat_rf, sp_cat_i, sp_cat_l]) (Nat.le_of_ble_eq_true rfl) (Nat.le_of_ble_eq_true rfl) (Nat.zero_le _) (Nat.zero_le _) dX11_dry_27 (sp_kR fun v27 m27 hp27 => ?_)
      obtain ⟨hp27v, hp27⟩ := hp27; replace hp27 := (hp27).symm; subst hp27; replace hp27v := (hp27v).symm; subst hp27v
      rw [k1]
      refine sp_checkcast X (pc := 30) (a := ea) (c := 3) rfl k2 (by decide) cl_SP_130 dX11_dry_30 ?_
      refine sp_callV X (pc := 33) (mc := 6810) (ms := 27240) (b := (A 7)) (c := 9) (r := (some (A 7))) (As := [va_rf (some ea)]) (rest := []) (c_Taking_judge l G _ hG hI hN hW hcR hTT k2 k3 k5 hpt2 v1 v2 k4 hpt1 k8 hp1 hp8 (fun q hq => (hcB.2 q hq).1) hmd (by omega)) ok_Taking_judge rfl t7 (by decide) rfl lk_SP_139 rfl rfl (Nat.zero_le _) (Nat.le_of_ble_eq_true rfl) (Nat.le_of_ble_eq_true rfl) (by omega) (by omega) dX11_dry_33 (sp_kI fun v33 m33 hp33 => ?_)
      obtain ⟨g1, g2, f, lk, th, al, sh, dd, g3, g4, g5, g6, g7, g9⟩ := hp33
      have hJD : pu_j0 R Z PT TT E (m.fL 580 (A 7)) (m.fL 581 (A 7)) j v33 f lk th al sh dd := by
        have z := g9.ou (fun z => v3 (by rw [z]; decide))
        rw [k7, hsz5] at z
        exact z
      refine sp_ireturn X (pc := 36) dX11_dry_36 rfl ⟨_, rfl, ?_⟩
      exact ⟨g1, g2, Or.inr ⟨j, hj, rfl, f, lk, th, al, sh, dd, hJD⟩⟩
    · have hno : ¬ ∃ j, j < ne ∧ a = nI j := by
        rintro ⟨j, z1, z2⟩
        subst z2
        first
          | exact hb12 (nI_lt z1 (by omega))
      refine sp_bipush X (pc := 15) (v := (-7)) dX11_dry_15 (by decide) ?_
      refine sp_ireturn X (pc := 17) dX11_dry_17 rfl ⟨_, rfl, ?_⟩
      exact ⟨hI, sp_F.refl m A sp_Tj, Or.inl ⟨hno, rfl⟩⟩
set_option maxRecDepth 20000 in
theorem c_SP_take (l : Launch) (G : sp_G) (m : sp_M) {P : Nat → Prop} {A : Nat → Nat} (hG : sp_GS G) (hI : sp_I G P A m) {R : Int32} {TT : Nat → List Int32} {Z : pu_Z} {nt0 : Nat} {NA BA : Nat → Nat} (hZ : sp_cZ G m A R TT Z NA BA) (hZW : pu_ZW nt0 Z) {PT : Nat → List (List Int32)} {p ne : Nat} {E : pu_E} (hcR : sp_cR m A R) (hcE : sp_cE G m A R PT TT ne E) (hEW : pu_EW p nt0 ne E) (hP : pu_P p PT) (hTT : ∀ t, t < nt0 → (TT t).length ≤ 40) (hq5 : Z.q.length < 512) {a : Int32} : sp_C l G M_SP_take 6840 38000 [.ref (A 17), .int a] m (sp_oI fun v m' => sp_I G P A m' ∧ sp_F m m' A sp_Tb ∧ ∃ Z' NA' BA', sp_cZ G m' A R TT Z' NA' BA' ∧ pu_ZW nt0 Z' ∧ pu_tk v R Z Z' (m.fI 776 (A 17)) (m'.fI 776 (A 17)) PT TT ne E (m.fL 580 (A 7)) (m.fL 581 (A 7)) a) := by
  refine sp_enter (lv0 := [(0, false, va_rf (some (A 17))), (1, false, .int a)]) "SafePaths" false rfl (by decide) (fun h => by cases h) (Nat.le_of_ble_eq_true rfl) rfl ?_
  intro w X
  have hS := hI.S
  have t4 := hS.k 4 1 (by decide)
  have t7 := hS.k 7 10 (by decide)
  have t17 := hS.k 17 13 (by decide)
  obtain ⟨hN, hcB, hcQ, hmd, hsz5⟩ := id hZ
  obtain ⟨hW, hQ, hbn⟩ := id hZW
  have hn2 := hW.1
  have hcE0 := hcE
  obtain ⟨e4, li4, hEL⟩ := hcE
  have h49 : ne < 2 ^ 31 := by have := li4.2.2.2.1; have := li4.2.2.2.2.1; omega
  have l17 := hI.lt 17 13 (by decide) (by decide)
  refine sp_iload_n X (pc := 0) (x := a) dX11_take_0 rfl rfl ?_
  refine sp_if_lt X (pc := 1) (tgt := 15) dX11_take_1 (by decide) (fun hb1 => ?_) (fun hb1 => ?_)
  · have hno : ¬ ∃ j, j < ne ∧ a = nI j := by
      rintro ⟨j, z1, z2⟩
      subst z2
      first
        | exact absurd hb1 (nI_pos (by omega))
    refine sp_bipush X (pc := 15) (v := (-7)) dX11_take_15 (by decide) ?_
    refine sp_ireturn X (pc := 17) dX11_take_17 rfl ⟨_, rfl, ?_⟩
    exact ⟨hI, sp_F.refl m A sp_Tb, Z, NA, BA, hZ, hZW, Or.inl ⟨hno, rfl, rfl, rfl⟩⟩
  · refine sp_iload_n X (pc := 4) (x := a) dX11_take_4 rfl rfl ?_
    refine sp_aload_n X (pc := 5) (r := some (A 17)) dX11_take_5 rfl rfl ?_
    refine sp_getfield X (pc := 6) (c := 12) (i := 4) (t := 2) (a := (A 17)) (v := va_rf (some (A 4))) rfl (by first | assumption | omega) (by decide) rfl (congrArg va_rf (hS.p 772 17 4 (by decide))) fl_SP_35 dX11_take_6 ?_
    refine sp_callV X (pc := 9) (mc := 0) (ms := 0) (b := (A 4)) (c := 0) (r := (some (A 4))) (As := []) (rest := [.int a]) (c_List_size l G _ t4) ok_List_size rfl t4 (by decide) rfl lk_SP_81 rfl rfl (by simp [sp_cat_rf, sp_cat_i, sp_cat_l]) (Nat.le_of_ble_eq_true rfl) (Nat.le_of_ble_eq_true rfl) (Nat.zero_le _) (Nat.zero_le _) dX11_take_9 (sp_kI fun v9 m9 hp9 => ?_)
    obtain ⟨hp9v, hp9⟩ := hp9; replace hp9 := (hp9).symm; subst hp9; replace hp9v := (hp9v).symm; subst hp9v
    rw [li4.2.2.1]
    refine sp_icmp_lt X (pc := 12) (tgt := 18) dX11_take_12 (by decide) (fun hb12 => ?_) (fun hb12 => ?_)
    · obtain ⟨j, hj, hij⟩ := sp_idx h49 hb1 (fun z => absurd hb12 (Int32.not_lt.mpr z))
      obtain ⟨ea, pa, oa, k1, k2, k3, k4, k5, k6, k7, k8, k9, k10⟩ := hEL j hj
      obtain ⟨w1, w2, w3, w4, w5⟩ := hEW j hj
      obtain ⟨hp1, hp8, hpu⟩ := hP _ w2
      obtain ⟨ou, v1, v2, v3⟩ := sp_cE.other (PT := PT) k9 k10 (fun z => (w3 z).1) hTT
      obtain ⟨L1, ed1, s1, hpt1⟩ := hI.J.pt k8.1
      obtain ⟨L2, ed2, s2, hpt2⟩ := hI.J.pt v1.1
      have hlea : ea < m.nx := hI.wf ea (by omega)
      subst hij
      refine sp_aload_n X (pc := 18) (r := some (A 17)) dX11_take_18 rfl rfl ?_
      refine sp_getfield X (pc := 19) (c := 12) (i := 4) (t := 2) (a := (A 17)) (v := va_rf (some (A 4))) rfl (by first | assumption | omega) (by decide) rfl (congrArg va_rf (hS.p 772 17 4 (by decide))) fl_SP_35 dX11_take_19 ?_
      refine sp_iload_n X (pc := 22) (x := (nI j)) dX11_take_22 rfl rfl ?_
      refine sp_callV X (pc := 23) (mc := 0) (ms := 0) (b := (A 4)) (c := 0) (r := (some (A 4))) (As := [.int (nI j)]) (rest := []) (c_List_get l G _ li4 hj) ok_List_get rfl t4 (by decide) rfl lk_SP_135 rfl rfl (Nat.zero_le _) (Nat.le_of_ble_eq_true rfl) (Nat.le_of_ble_eq_true rfl) (Nat.zero_le _) (Nat.zero_le _) dX11_take_23 (sp_kR fun v23 m23 hp23 => ?_)
      obtain ⟨hp23v, hp23⟩ := hp23; replace hp23 := (hp23).symm; subst hp23; replace hp23v := (hp23v).symm; subst hp23v
      rw [k1]
      refine sp_checkcast X (pc := 26) (a := ea) (c := 3) rfl k2 (by decide) cl_SP_130 dX11_take_26 ?_
      refine sp_astore_n X (pc := 29) (lv' := [(2, false, va_rf (some ea)), (0, false, va_rf (some (A 17))), (1, false, .int (nI j))]) dX11_take_29 rfl (by decide) rfl ?_
      refine sp_aload_n X (pc := 30) (r := some (A 17)) dX11_take_30 rfl rfl ?_
      refine sp_getfield X (pc := 31) (c := 12) (i := 7) (t := 2) (a := (A 17)) (v := va_rf (some (A 7))) rfl (by first | assumption | omega) (by decide) rfl (congrArg va_rf (hS.p 775 17 7 (by decide))) fl_SP_61 dX11_take_31 ?_
      refine sp_aload_n X (pc := 34) (r := some ea) dX11_take_34 rfl rfl ?_
      refine sp_callV X (pc := 35) (mc := 6810) (ms := 27240) (b := (A 7)) (c := 9) (r := (some (A 7))) (As := [va_rf (some ea)]) (rest := []) (c_Taking_judge l G _ hG hI hN hW hcR hTT k2 k3 k5 hpt2 v1 v2 k4 hpt1 k8 hp1 hp8 (fun q hq => (hcB.2 q hq).1) hmd (by omega)) ok_Taking_judge rfl t7 (by decide) rfl lk_SP_139 rfl rfl (Nat.zero_le _) (Nat.le_of_ble_eq_true rfl) (Nat.le_of_ble_eq_true rfl) (by omega) (by omega) dX11_take_35 (sp_kI fun v35 m35 hp35 => ?_)
      obtain ⟨g1, g2, f, lk, th, al, sh, dd, g3, g4, g5, g6, g7, g9⟩ := hp35
      have hJD : pu_j0 R Z PT TT E (m.fL 580 (A 7)) (m.fL 581 (A 7)) j v35 f lk th al sh dd := by
        have z := g9.ou (fun z => v3 (by rw [z]; decide))
        rw [k7, hsz5] at z
        exact z
      have hS35 := g1.S
      have v17 := hS35.k 17 13 (by decide)
      have G4 := (sp_F.refl m A sp_Tb).trans g2 sp_Tj.b
      have C4 := hZ.F hI g2 ⟨sp_Tj.n9, sp_Tj.n6, sp_Tj.n7, by unfold sp_Tj; decide, by unfold sp_Tj; decide, by unfold sp_Tj; decide, by unfold sp_Tj; decide⟩
      have h776 : m35.fI 776 (A 17) = m.fI 776 (A 17) := g2.I l17 (by decide) (by unfold sp_Tj; decide)
      refine sp_istore_n X (pc := 38) (lv' := [(3, false, .int v35), (2, false, va_rf (some ea)), (0, false, va_rf (some (A 17))), (1, false, .int (nI j))]) dX11_take_38 rfl (by decide) rfl ?_
      have cut55 : ∀ (m3 : sp_M), sp_I G P A m3 → sp_F m m3 A sp_Tb → sp_cZ G m3 A R TT Z NA BA → sp_js m3 A NA BA Z.n f lk th al sh dd → m3.fI 776 (A 17) = (if v35 = -20 then m.fI 776 (A 17) + 1 else m.fI 776 (A 17)) → w 22 10700 m3 55 [(0, false, va_rf (some (A 17))), (2, false, va_rf (some ea)), (3, false, .int v35)] [] := by
        intro m3 I3 F3 C3 S3 L3
        have hS3 := I3.S
        have y7 := hS3.k 7 10 (by decide)
        have y17 := hS3.k 17 13 (by decide)
        have he3 := F3.ty hI.wf k2 (by decide)
        refine sp_iload_n X (pc := 55) (x := v35) dX11_take_55 rfl rfl ?_
        refine sp_if_ne X (pc := 56) (tgt := 70) dX11_take_56 (by decide) (fun hb56 => ?_) (fun hb56 => ?_)
        · refine sp_iload_n X (pc := 70) (x := v35) dX11_take_70 rfl rfl ?_
          refine sp_ireturn X (pc := 71) dX11_take_71 rfl ⟨_, rfl, ?_⟩
          first
            | (have hx0 : ¬ v35 = 0 := hb56
               exact ⟨I3, F3, Z, NA, BA, C3, hZW, Or.inr ⟨j, hj, rfl, v35, f, lk, th, al, sh, dd, hJD, Or.inl ⟨hx0, rfl, rfl, L3⟩⟩⟩)
            | (have hx0 : v35 = 0 := hb56
               exact ⟨c1, F6, _, NA', BA', c5, c4, Or.inr ⟨j, hj, rfl, v35, f, lk, th, al, sh, dd, hJD, Or.inr ⟨hx0, c3, rfl, by rw [h776', L3, hx0, if_neg (by decide)]⟩⟩⟩)
        · have hx0 : v35 = 0 := hb56
          have hJ0 := hJD
          rw [hx0] at hJ0
          obtain ⟨q1, q2, q3, q4, q5, q6⟩ := pu_jd.fine hW hJ0
          have F3T : ∀ j, j < m.nx → m3.fI 192 j = m.fI 192 j ∧ m3.fI 195 j = m.fI 195 j ∧ m3.fL 196 j = m.fL 196 j := fun j hj => ⟨F3.2.2.1 _ _ hj (by rintro (z | z); omega; omega), F3.2.2.1 _ _ hj (by rintro (z | z); omega; omega), F3.L hj (fun z => by omega)⟩
          refine sp_aload_n X (pc := 59) (r := some (A 17)) dX11_take_59 rfl rfl ?_
          refine sp_getfield X (pc := 60) (c := 12) (i := 7) (t := 2) (a := (A 17)) (v := va_rf (some (A 7))) rfl (by first | assumption | omega) (by decide) rfl (congrArg va_rf (hS3.p 775 17 7 (by decide))) fl_SP_61 dX11_take_60 ?_
          refine sp_aload_n X (pc := 63) (r := some ea) dX11_take_63 rfl rfl ?_
          refine sp_callV X (pc := 64) (mc := 22) (ms := 10700) (b := (A 7)) (c := 9) (r := (some (A 7))) (As := [va_rf (some ea)]) (rest := []) (c_Taking_carryOut l G _ hG I3 C3 hZW hq5 (tg := E.X j) S3 he3 ((F3T ea hlea).1.trans k3) (by rcases w1 with z | z | z | z | z; exact Or.inl z; exact Or.inr (Or.inl z); exact Or.inr (Or.inr (Or.inl z)); exact Or.inr (Or.inr (Or.inr z)); exact absurd z q6) ((F3T ea hlea).2.2.trans k7) ((F3T ea hlea).2.1.trans k6) ((F3.R hlea (by decide)).trans k4) ((F3.R hlea (by decide)).trans k5) (F3.pt hI I3 hpt1) (k8.F hI F3) hp8 hpu q1 q2 q3 q4 (fun z => ⟨(q5 z).1, fun w9 => by obtain ⟨q, hq⟩ := (q5 z).2.1 w9; exact ⟨q, hq, g7 q hq⟩, (q5 z).2.2⟩) (fun z => ⟨(k9 z).F hI F3, (w3 z).1⟩)) ok_Taking_carryOut rfl y7 (by decide) rfl lk_SP_143 rfl rfl (Nat.zero_le _) (Nat.le_of_ble_eq_true rfl) (Nat.le_of_ble_eq_true rfl) (by omega) (by omega) dX11_take_64 (sp_kI fun v64 m64 hp64 => ?_)
          obtain ⟨c1, c2, c3, c4, NA', BA', c5⟩ := hp64
          have h776' : m64.fI 776 (A 17) = m3.fI 776 (A 17) := c2.I (I3.lt 17 13 (by decide) (by decide)) (by decide) (by unfold sp_Tc; decide)
          have F6 : sp_F m m64 A sp_Tb := F3.trans c2 (fun j h => by unfold sp_Tc at h; unfold sp_Tb; omega)
          refine sp_goto X (pc := 67) (tgt := 71) dX11_take_67 (by decide) ?_
          refine sp_ireturn X (pc := 71) dX11_take_71 rfl ⟨_, rfl, ?_⟩
          first
            | (have hx0 : ¬ v35 = 0 := hb56
               exact ⟨I3, F3, Z, NA, BA, C3, hZW, Or.inr ⟨j, hj, rfl, v35, f, lk, th, al, sh, dd, hJD, Or.inl ⟨hx0, rfl, rfl, L3⟩⟩⟩)
            | (have hx0 : v35 = 0 := hb56
               exact ⟨c1, F6, _, NA', BA', c5, c4, Or.inr ⟨j, hj, rfl, v35, f, lk, th, al, sh, dd, hJD, Or.inr ⟨hx0, c3, rfl, by rw [h776', L3, hx0, if_neg (by decide)]⟩⟩⟩)
      refine sp_iload_n X (pc := 39) (x := v35) dX11_take_39 rfl rfl ?_
      refine sp_bipush X (pc := 40) (v := (-20)) dX11_take_40 (by decide) ?_
      refine sp_icmp_ne X (pc := 42) (tgt := 55) dX11_take_42 (by decide) (fun hb42 => ?_) (fun hb42 => ?_)
      · refine sp_pick X [2, 1, 0] (lv' := [(0, false, va_rf (some (A 17))), (2, false, va_rf (some ea)), (3, false, .int v35)]) rfl ?_
        refine sp_less X (k' := 22) (n' := 10700) (by decide) (by decide) ?_
        first
          | (have hb : ¬ v35 = -20 := hb42
             exact cut55 m35 g1 G4 C4 g3 (by rw [if_neg hb]; exact h776))
          | (have hb : v35 = -20 := hb42
             exact cut55 _ (g1.pI (by decide)) (G4.pI (by unfold sp_Tb; decide) (by decide)) (C4.pI6 g1) (g3.F (g1.lt 7 10 (by decide) (by decide)) ((sp_F.refl m35 A (fun j => j = 776)).pI rfl (by decide)) (by decide)) (by rw [if_pos hb, sp_pI_fI, if_pos ⟨rfl, rfl⟩, h776]))
      · refine sp_aload_n X (pc := 45) (r := some (A 17)) dX11_take_45 rfl rfl ?_
        refine sp_dup X (pc := 46) dX11_take_46 (sp_cat_rf _) ?_
        refine sp_getfield X (pc := 47) (c := 12) (i := 8) (t := 0) (a := (A 17)) (v := .int (m35.fI 776 (A 17))) rfl (by first | assumption | omega) (by decide) rfl rfl fl_SP_65 dX11_take_47 ?_
        refine sp_iconst X (pc := 50) (v := 1) dX11_take_50 (by decide) ?_
        refine sp_iadd X (pc := 51) dX11_take_51 ?_
        refine sp_putI X (pc := 52) (c := 12) (i := 8) (q := 776) (a := (A 17)) rfl (by first | assumption | omega) (by decide) rfl rfl (Or.inl rfl) ⟨rfl, rfl⟩ fl_SP_65 dX11_take_52 ?_
        refine sp_pick X [2, 1, 0] (lv' := [(0, false, va_rf (some (A 17))), (2, false, va_rf (some ea)), (3, false, .int v35)]) rfl ?_
        refine sp_less X (k' := 22) (n' := 10700) (by decide) (by decide) ?_
        first
          | (have hb : ¬ v35 = -20 := hb42
             exact cut55 m35 g1 G4 C4 g3 (by rw [if_neg hb]; exact h776))
          | (have hb : v35 = -20 := hb42
             exact cut55 _ (g1.pI (by decide)) (G4.pI (by unfold sp_Tb; decide) (by decide)) (C4.pI6 g1) (g3.F (g1.lt 7 10 (by decide) (by decide)) ((sp_F.refl m35 A (fun j => j = 776)).pI rfl (by decide)) (by decide)) (by rw [if_pos hb, sp_pI_fI, if_pos ⟨rfl, rfl⟩, h776]))
    · have hno : ¬ ∃ j, j < ne ∧ a = nI j := by
        rintro ⟨j, z1, z2⟩
        subst z2
        first
          | exact hb12 (nI_lt z1 (by omega))
      refine sp_bipush X (pc := 15) (v := (-7)) dX11_take_15 (by decide) ?_
      refine sp_ireturn X (pc := 17) dX11_take_17 rfl ⟨_, rfl, ?_⟩
      exact ⟨hI, sp_F.refl m A sp_Tb, Z, NA, BA, hZ, hZW, Or.inl ⟨hno, rfl, rfl, rfl⟩⟩
set_option maxRecDepth 20000 in
theorem c_SP_finish (l : Launch) (G : sp_G) (m : sp_M) {P : Nat → Prop} {A : Nat → Nat} (hG : sp_GS G) (hI : sp_I G P A m) {R : Int32} {TT : Nat → List Int32} {Z : pu_Z} {nt0 : Nat} {NA BA : Nat → Nat} (hZ : sp_cZ G m A R TT Z NA BA) (hZW : pu_ZW nt0 Z) : sp_C l G M_SP_finish 0 0 [.ref (A 17)] m (sp_oI fun v m' => sp_I G P A m' ∧ sp_F m m' A sp_T16 ∧ v = nI (pu_cs (pu_fn Z)) ∧ sp_cZ G m' A R TT (pu_fn Z) NA BA ∧ pu_ZW nt0 (pu_fn Z)) := by
  refine sp_enter (lv0 := [(0, false, va_rf (some (A 17)))]) "SafePaths" false rfl (by decide) (fun h => by cases h) (Nat.le_of_ble_eq_true rfl) rfl ?_
  intro w X
  have hS := hI.S
  have t5 := hS.k 5 11 (by decide)
  have t7 := hS.k 7 10 (by decide)
  have t17 := hS.k 17 13 (by decide)
  obtain ⟨hN, hcB, hcQ, hmd, hsz5⟩ := id hZ
  obtain ⟨hW, hQ, hbn⟩ := id hZW
  have hn2 := hW.1
  refine sp_aload_n X (pc := 0) (r := some (A 17)) dX11_finish_0 rfl rfl ?_
  refine sp_getfield X (pc := 1) (c := 12) (i := 7) (t := 2) (a := (A 17)) (v := va_rf (some (A 7))) rfl (by first | assumption | omega) (by decide) rfl (congrArg va_rf (hS.p 775 17 7 (by decide))) fl_SP_61 dX11_finish_1 ?_
  refine sp_callV X (pc := 4) (mc := 0) (ms := 0) (b := (A 7)) (c := 9) (r := (some (A 7))) (As := []) (rest := []) (c_Taking_setNotedRights l G _ hG hI hN hW hcQ hQ) ok_Taking_setNotedRights rfl t7 (by decide) rfl lk_SP_146 rfl rfl (Nat.zero_le _) (Nat.le_of_ble_eq_true rfl) (Nat.le_of_ble_eq_true rfl) (Nat.zero_le _) (Nat.zero_le _) dX11_finish_4 (sp_kV fun m4 hp4 => ?_)
  obtain ⟨g1, g2, g3, g4⟩ := hp4
  have hS4 := g1.S
  have y17 := hS4.k 17 13 (by decide)
  have y5 := hS4.k 5 11 (by decide)
  have W4 : pu_W Z.n Z.b nt0 (pu_fin Z.T Z.q) := by have z := hW.take hQ Z.q.length (Nat.le_refl _); rw [List.take_length] at z; exact z
  have l7 := hI.lt 7 10 (by decide) (by decide)
  have C4 : sp_cZ G m4 A R TT (pu_fn Z) NA BA := ⟨g3, hcB.F hI g2 (by unfold sp_T16; decide), g4, by rw [g2.I l7 (by decide) (by unfold sp_T16; decide)]; exact hmd, by rw [g2.L l7 (fun _ => by unfold sp_T16; decide)]; exact hsz5⟩
  refine sp_aload_n X (pc := 7) (r := some (A 17)) dX11_finish_7 rfl rfl ?_
  refine sp_getfield X (pc := 8) (c := 12) (i := 5) (t := 2) (a := (A 17)) (v := va_rf (some (A 5))) rfl (by first | assumption | omega) (by decide) rfl (congrArg va_rf (hS4.p 773 17 5 (by decide))) fl_SP_43 dX11_finish_8 ?_
  refine sp_callV X (pc := 11) (mc := 0) (ms := 0) (b := (A 5)) (c := 10) (r := (some (A 5))) (As := []) (rest := []) (c_Tree_countShut l G _ g1.J g1.tr g3 W4) ok_Tree_countShut rfl y5 (by decide) rfl lk_SP_149 rfl rfl (Nat.zero_le _) (Nat.le_of_ble_eq_true rfl) (Nat.le_of_ble_eq_true rfl) (Nat.zero_le _) (Nat.zero_le _) dX11_finish_11 (sp_kI fun v11 m11 hp11 => ?_)
  obtain ⟨hp11, hp11m⟩ := hp11; replace hp11m := (hp11m).symm; subst hp11m
  refine sp_ireturn X (pc := 14) dX11_finish_14 rfl ⟨_, rfl, ?_⟩
  exact ⟨g1, g2, hp11, C4, W4, fun i hi => absurd hi (Nat.not_lt_zero _), hbn⟩
set_option maxRecDepth 20000 in
theorem c_SP_lead (l : Launch) (G : sp_G) (m : sp_M) {P : Nat → Prop} {A : Nat → Nat} (hG : sp_GS G) (hI : sp_I G P A m) {R : Int32} {TT : Nat → List Int32} {Z : pu_Z} {nt0 : Nat} {NA BA : Nat → Nat} (hZ : sp_cZ G m A R TT Z NA BA) (hZW : pu_ZW nt0 Z) {a : Int32} (hcR : sp_cR m A R) (hTT : ∀ t, t < nt0 → (TT t).length ≤ 40) : sp_C l G M_SP_lead 6810 27240 [.ref (A 17), .int a] m (sp_oI fun v m' => sp_I G P A m' ∧ sp_F m m' A sp_15 ∧ pu_lead v R Z.n Z.T (pu_tp R TT) (pu_tf R TT) a) := by
  refine sp_enter (lv0 := [(0, false, va_rf (some (A 17))), (1, false, .int a)]) "SafePaths" false rfl (by decide) (fun h => by cases h) (Nat.le_of_ble_eq_true rfl) rfl ?_
  intro w X
  have hS := hI.S
  have t5 := hS.k 5 11 (by decide)
  have t6 := hS.k 6 12 (by decide)
  have t17 := hS.k 17 13 (by decide)
  obtain ⟨hN, hcB, hcQ, hmd, hsz5⟩ := id hZ
  obtain ⟨hW, hQ, hbn⟩ := id hZW
  have hn2 := hW.1
  obtain ⟨-, e15, s15, hli15, -⟩ := hS.2.2.1 15 sp_ix15
  refine sp_aload_n X (pc := 0) (r := some (A 17)) dX11_lead_0 rfl rfl ?_
  refine sp_getfield X (pc := 1) (c := 12) (i := 5) (t := 2) (a := (A 17)) (v := va_rf (some (A 5))) rfl (by first | assumption | omega) (by decide) rfl (congrArg va_rf (hS.p 773 17 5 (by decide))) fl_SP_43 dX11_lead_1 ?_
  refine sp_iload_n X (pc := 4) (x := a) dX11_lead_4 rfl rfl ?_
  refine sp_callV X (pc := 5) (mc := 0) (ms := 0) (b := (A 5)) (c := 10) (r := (some (A 5))) (As := [.int a]) (rest := []) (c_Tree_at l G _ hI.J hI.tr) ok_Tree_at rfl t5 (by decide) rfl lk_SP_161 rfl rfl (Nat.zero_le _) (Nat.le_of_ble_eq_true rfl) (Nat.le_of_ble_eq_true rfl) (Nat.zero_le _) (Nat.zero_le _) dX11_lead_5 (sp_kR fun v5 m5 hp5 => ?_)
  obtain ⟨hp5, hp5m⟩ := hp5; replace hp5m := (hp5m).symm; subst hp5m
  have hx5 : (∃ j, j < Z.n ∧ a = nI j ∧ v5 = some (NA j)) ∨ ((¬ ∃ j, j < Z.n ∧ a = nI j) ∧ v5 = none) := by
    obtain ⟨ed, s, g1, h⟩ := hp5
    obtain ⟨e9, g2, g3⟩ := hN.1
    obtain ⟨rfl, rfl⟩ := sp_sz_fun g2 g1
    rcases h with ⟨j, b2, z1, z2, z3, z4, z5⟩ | ⟨z1, z⟩
    · refine Or.inl ⟨j, z1, z2, ?_⟩
      rw [z3, ← z4]
      exact g3 j z1
    · exact Or.inr ⟨sp_vno z1 (by omega), z⟩
  refine sp_astore_n X (pc := 8) (lv' := [(2, false, va_rf v5), (0, false, va_rf (some (A 17))), (1, false, .int a)]) dX11_lead_8 rfl (by decide) rfl ?_
  refine sp_aload_n X (pc := 9) (r := v5) dX11_lead_9 rfl rfl ?_
  refine sp_ifnull X (pc := 10) (tgt := 20) dX11_lead_10 (by decide) (fun hb10 => ?_) (fun ra10 hb10 => ?_)
  · have hno : ¬ ∃ j, j < Z.n ∧ a = nI j := by
      rcases hx5 with ⟨j, -, -, z⟩ | ⟨z, -⟩
      · rw [z] at hb10; cases hb10
      · exact z
    refine sp_bipush X (pc := 20) (v := (-7)) dX11_lead_20 (by decide) ?_
    refine sp_ireturn X (pc := 22) dX11_lead_22 rfl ⟨_, rfl, ?_⟩
    first
      | exact ⟨hI, sp_F.refl m A sp_15, Or.inl ⟨fun ⟨j, q1, q2, _⟩ => hno ⟨j, q1, q2⟩, rfl⟩⟩
      | exact ⟨hI, sp_F.refl m A sp_15, Or.inl ⟨fun ⟨k, q1, q2, q3⟩ => (by
          obtain rfl := pu_nI (hja.symm.trans q2) (by omega) (by omega)
          exact hg q3), rfl⟩⟩
  · obtain ⟨j, hj, hja, hjv⟩ : ∃ j, j < Z.n ∧ a = nI j ∧ v5 = some (NA j) := by
      rcases hx5 with z | ⟨-, z⟩
      · exact z
      · rw [z] at hb10; cases hb10
    have hra : ra10 = NA j := by rw [hjv] at hb10; exact (Option.some.inj hb10).symm
    subst hra
    subst hb10
    obtain ⟨nd1, nd2, nd3, nd9, ⟨nd4, nd5, nd6⟩, nd7, nd8, nd0⟩ := hN.2.2 j hj
    have hup := (hN.2.2 j hj).up hW.2.1
    refine sp_aload_n X (pc := 13) (r := (some (NA j))) dX11_lead_13 rfl rfl ?_
    refine sp_getfield X (pc := 14) (c := 5) (i := 7) (t := 0) (a := (NA j)) (v := .int (m.fI 327 (NA j))) rfl nd1 (by decide) rfl rfl fl_SP_164 dX11_lead_14 ?_
    refine sp_if_eq X (pc := 17) (tgt := 23) dX11_lead_17 (by decide) (fun hb17 => ?_) (fun hb17 => ?_)
    · have hg : Z.T.g j = 0 := nd6.symm.trans hb17
      refine sp_aload_n X (pc := 23) (r := (some (NA j))) dX11_lead_23 rfl rfl ?_
      refine sp_getfield X (pc := 24) (c := 5) (i := 4) (t := 2) (a := (NA j)) (v := va_rf (m.fR 324 (NA j))) rfl nd1 (by decide) rfl rfl fl_SP_170 dX11_lead_24 ?_
      refine sp_ifnonnull X (pc := 27) (tgt := 35) dX11_lead_27 (by decide) (fun ra27 hb27 => ?_) (fun hb27 => ?_)
      · have hk2 : Z.T.k j = 2 := Classical.byContradiction fun z => by
          rw [nd8 z] at hb27
          cases hb27
        obtain ⟨ta, z1, us, u1, u2, u3⟩ := nd0 hk2
        have hra : ra27 = ta := by rw [z1] at hb27; exact (Option.some.inj hb27).symm
        subst hra
        obtain ⟨L9, ed9, n9, hpt9⟩ := hI.J.pt u2.1
        have htl : Z.T.h j < nt0 := by
          rcases hW.2.2.2.1 j hj with z | ⟨z, -⟩ | ⟨-, z⟩
          · rw [z] at hk2; exact absurd hk2 (by decide)
          · rw [z] at hk2; exact absurd hk2 (by decide)
          · exact z
        have htp := pu_tp.eq u1
        refine sp_aload_n X (pc := 35) (r := (some (NA j))) dX11_lead_35 rfl rfl ?_
        refine sp_getfield X (pc := 36) (c := 5) (i := 5) (t := 0) (a := (NA j)) (v := .int (m.fI 325 (NA j))) rfl nd1 (by decide) rfl rfl fl_SP_177 dX11_lead_36 ?_
        refine sp_if_eq X (pc := 39) (tgt := 47) dX11_lead_39 (by decide) (fun hb39 => ?_) (fun hb39 => ?_)
        · have hdd : Z.T.d j = 0 := nd4.symm.trans hb39
          refine sp_aload_n X (pc := 47) (r := some (A 17)) dX11_lead_47 rfl rfl ?_
          refine sp_getfield X (pc := 48) (c := 12) (i := 6) (t := 2) (a := (A 17)) (v := va_rf (some (A 6))) rfl (by first | assumption | omega) (by decide) rfl (congrArg va_rf (hS.p 774 17 6 (by decide))) fl_SP_52 dX11_lead_48 ?_
          refine sp_aload_n X (pc := 51) (r := (some (NA j))) dX11_lead_51 rfl rfl ?_
          refine sp_getfield X (pc := 52) (c := 5) (i := 4) (t := 2) (a := (NA j)) (v := va_rf (some ra27)) rfl nd1 (by decide) rfl (congrArg va_rf hb27) fl_SP_170 dX11_lead_52 ?_
          refine sp_aload_n X (pc := 55) (r := (some (NA j))) dX11_lead_55 rfl rfl ?_
          refine sp_callV X (pc := 56) (mc := 0) (ms := 0) (b := (NA j)) (c := 5) (r := (some (NA j))) (As := []) (rest := [va_rf (some ra27), va_rf (some (A 6))]) (c_Node_up l G _ nd1) ok_Node_up rfl nd1 (by decide) rfl lk_SP_180 rfl rfl (by simp [sp_cat_rf, sp_cat_i, sp_cat_l]) (Nat.le_of_ble_eq_true rfl) (Nat.le_of_ble_eq_true rfl) (Nat.zero_le _) (Nat.zero_le _) dX11_lead_56 (sp_kR fun v56 m56 hp56 => ?_)
          obtain ⟨hp56v, hp56⟩ := hp56; replace hp56 := (hp56).symm; subst hp56; replace hp56v := (hp56v).symm; subst hp56v
          rw [hup]
          refine sp_iconst X (pc := 59) (v := 0) dX11_lead_59 (by decide) ?_
          refine sp_callV X (pc := 60) (mc := 6810 - m.ln e15) (ms := 4 * (6810 - m.ln e15)) (b := (A 6)) (c := 11) (r := (some (A 6))) (As := [va_rf (some ra27), va_rf (some (NA (Z.T.o j))), .int 0]) (rest := []) (c_Walk_goThrough l G _ (y0 := 0) hG hI hN hW hcR.2.1 hTT hpt9 u2 (u1.few (hTT _ htl)) (hW.lt hj) (by omega) hli15) ok_Walk_goThrough rfl t6 (by decide) rfl lk_SP_184 rfl rfl (Nat.zero_le _) (Nat.le_of_ble_eq_true rfl) (Nat.le_of_ble_eq_true rfl) (by omega) (by omega) dX11_lead_60 (sp_kI fun v60 m60 hp60 => ?_)
          obtain ⟨g1, g2, ff, g3, g4⟩ := hp60
          rw [← htp] at g4
          have g5 : (pu_tf R TT (Z.T.h j) ∧ ff = 0) ∨ (¬ pu_tf R TT (Z.T.h j) ∧ ff = Z.T.o j) := g3.imp (fun z => ⟨u3.ne z.1, z.2⟩) (fun z => ⟨u3.eq z.1, z.2⟩)
          refine sp_ireturn X (pc := 63) dX11_lead_63 rfl ⟨_, rfl, ?_⟩
          first
            | exact ⟨g1, g2, Or.inr ⟨j, hj, hja, hg, Or.inr ⟨hk2, Or.inr ⟨hdd, ff, g5, g4⟩⟩⟩⟩
            | exact ⟨hI, sp_F.refl m A sp_15, Or.inr ⟨j, hj, hja, hg, Or.inr ⟨hk2, Or.inl ⟨hdd, rfl⟩⟩⟩⟩
        · have hdd : ¬ Z.T.d j = 0 := fun z => hb39 (nd4.trans z)
          refine sp_bipush X (pc := 42) (v := (-2)) dX11_lead_42 (by decide) ?_
          refine sp_goto X (pc := 44) (tgt := 63) dX11_lead_44 (by decide) ?_
          refine sp_ireturn X (pc := 63) dX11_lead_63 rfl ⟨_, rfl, ?_⟩
          first
            | exact ⟨g1, g2, Or.inr ⟨j, hj, hja, hg, Or.inr ⟨hk2, Or.inr ⟨hdd, ff, g5, g4⟩⟩⟩⟩
            | exact ⟨hI, sp_F.refl m A sp_15, Or.inr ⟨j, hj, hja, hg, Or.inr ⟨hk2, Or.inl ⟨hdd, rfl⟩⟩⟩⟩
      · have hk2 : ¬ Z.T.k j = 2 := fun z => by
          obtain ⟨ta, z1, -⟩ := nd0 z
          rw [hb27] at z1
          cases z1
        refine sp_aload_n X (pc := 30) (r := (some (NA j))) dX11_lead_30 rfl rfl ?_
        refine sp_getfield X (pc := 31) (c := 5) (i := 0) (t := 0) (a := (NA j)) (v := .int (m.fI 320 (NA j))) rfl nd1 (by decide) rfl rfl fl_SP_174 dX11_lead_31 ?_
        refine sp_ireturn X (pc := 34) dX11_lead_34 rfl ⟨_, rfl, ?_⟩
        exact ⟨hI, sp_F.refl m A sp_15, Or.inr ⟨j, hj, hja, hg, Or.inl ⟨hk2, nd2⟩⟩⟩
    · have hg : ¬ Z.T.g j = 0 := fun z => hb17 (nd6.trans z)
      refine sp_bipush X (pc := 20) (v := (-7)) dX11_lead_20 (by decide) ?_
      refine sp_ireturn X (pc := 22) dX11_lead_22 rfl ⟨_, rfl, ?_⟩
      first
        | exact ⟨hI, sp_F.refl m A sp_15, Or.inl ⟨fun ⟨j, q1, q2, _⟩ => hno ⟨j, q1, q2⟩, rfl⟩⟩
        | exact ⟨hI, sp_F.refl m A sp_15, Or.inl ⟨fun ⟨k, q1, q2, q3⟩ => (by
            obtain rfl := pu_nI (hja.symm.trans q2) (by omega) (by omega)
            exact hg q3), rfl⟩⟩
set_option maxRecDepth 20000 in
theorem c_SP_limit (l : Launch) (G : sp_G) (m : sp_M) {P : Nat → Prop} {A : Nat → Nat} (hG : sp_GS G) (hI : sp_I G P A m) {a : Int32} {n : Int64} : sp_C l G M_SP_limit 0 0 [.ref (A 17), .int a, .long n] m (sp_oL fun v m' => ((n < 0 ∨ ¬ (a = 0 ∨ a = 1)) ∧ v = -7 ∧ m' = m) ∨ (¬ n < 0 ∧ a = 0 ∧ v = m.fL 580 (A 7) ∧ m' = m.pL 580 (A 7) n) ∨ (¬ n < 0 ∧ a = 1 ∧ v = m.fL 581 (A 7) ∧ m' = m.pL 581 (A 7) n)) := by
  refine sp_enter (lv0 := [(0, false, va_rf (some (A 17))), (1, false, .int a), (2, true, .long n)]) "SafePaths" false rfl (by decide) (fun h => by cases h) (Nat.le_of_ble_eq_true rfl) rfl ?_
  intro w X
  have hS := hI.S
  have t7 := hS.k 7 10 (by decide)
  have t17 := hS.k 17 13 (by decide)
  refine sp_lload_n X (pc := 0) (x := n) dX11_limit_0 rfl rfl ?_
  refine sp_lconst X (pc := 1) (v := 0) dX11_limit_1 (by decide) ?_
  refine sp_lcmp X (pc := 2) dX11_limit_2 ?_
  refine sp_if_ge X (pc := 3) (tgt := 10) dX11_limit_3 (by decide) (fun hb3 => ?_) (fun hb3 => ?_)
  · have hn : ¬ n < 0 := sp_lge hb3
    refine sp_iload_n X (pc := 10) (x := a) dX11_limit_10 rfl rfl ?_
    refine sp_if_ne X (pc := 11) (tgt := 23) dX11_limit_11 (by decide) (fun hb11 => ?_) (fun hb11 => ?_)
    · refine sp_iload_n X (pc := 23) (x := a) dX11_limit_23 rfl rfl ?_
      refine sp_iconst X (pc := 24) (v := 1) dX11_limit_24 (by decide) ?_
      refine sp_icmp_ne X (pc := 25) (tgt := 37) dX11_limit_25 (by decide) (fun hb25 => ?_) (fun hb25 => ?_)
      · refine sp_ldc2 X (pc := 37) (v := (-7)) kl_SP_152 dX11_limit_37 ?_
        refine sp_lreturn X (pc := 40) dX11_limit_40 ⟨_, rfl, ?_⟩
        exact Or.inl ⟨Or.inr (by rintro (z | z); exact hb11 z; exact hb25 z), rfl, rfl⟩
      · refine sp_aload_n X (pc := 28) (r := some (A 17)) dX11_limit_28 rfl rfl ?_
        refine sp_getfield X (pc := 29) (c := 12) (i := 7) (t := 2) (a := (A 17)) (v := va_rf (some (A 7))) rfl (by first | assumption | omega) (by decide) rfl (congrArg va_rf (hS.p 775 17 7 (by decide))) fl_SP_61 dX11_limit_29 ?_
        refine sp_lload_n X (pc := 32) (x := n) dX11_limit_32 rfl rfl ?_
        refine sp_callV X (pc := 33) (mc := 0) (ms := 0) (b := (A 7)) (c := 9) (r := (some (A 7))) (As := [.long n]) (rest := []) (c_Taking_changeSizeLimit l G _ hG hI) ok_Taking_changeSizeLimit rfl t7 (by decide) rfl lk_SP_158 rfl rfl (Nat.zero_le _) (Nat.le_of_ble_eq_true rfl) (Nat.le_of_ble_eq_true rfl) (Nat.zero_le _) (Nat.zero_le _) dX11_limit_33 (sp_kL fun v33 m33 hp33 => ?_)
        refine sp_lreturn X (pc := 36) dX11_limit_36 ⟨_, rfl, ?_⟩
        exact Or.inr (Or.inr ⟨hn, hb25, hp33.1, hp33.2⟩)
    · refine sp_aload_n X (pc := 14) (r := some (A 17)) dX11_limit_14 rfl rfl ?_
      refine sp_getfield X (pc := 15) (c := 12) (i := 7) (t := 2) (a := (A 17)) (v := va_rf (some (A 7))) rfl (by first | assumption | omega) (by decide) rfl (congrArg va_rf (hS.p 775 17 7 (by decide))) fl_SP_61 dX11_limit_15 ?_
      refine sp_lload_n X (pc := 18) (x := n) dX11_limit_18 rfl rfl ?_
      refine sp_callV X (pc := 19) (mc := 0) (ms := 0) (b := (A 7)) (c := 9) (r := (some (A 7))) (As := [.long n]) (rest := []) (c_Taking_changeNodeLimit l G _ hG hI) ok_Taking_changeNodeLimit rfl t7 (by decide) rfl lk_SP_154 rfl rfl (Nat.zero_le _) (Nat.le_of_ble_eq_true rfl) (Nat.le_of_ble_eq_true rfl) (Nat.zero_le _) (Nat.zero_le _) dX11_limit_19 (sp_kL fun v19 m19 hp19 => ?_)
      refine sp_lreturn X (pc := 22) dX11_limit_22 ⟨_, rfl, ?_⟩
      exact Or.inr (Or.inl ⟨hn, hb11, hp19.1, hp19.2⟩)
  · have hn : n < 0 := sp_llt hb3
    refine sp_ldc2 X (pc := 6) (v := (-7)) kl_SP_152 dX11_limit_6 ?_
    refine sp_lreturn X (pc := 9) dX11_limit_9 ⟨_, rfl, ?_⟩
    exact Or.inl ⟨Or.inl hn, rfl, rfl⟩
