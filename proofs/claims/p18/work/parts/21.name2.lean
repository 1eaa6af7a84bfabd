set_option maxRecDepth 20000 in
theorem c_Name_hasMark (l : Launch) (G : sp_G) (m : sp_M) {a b s : Nat} (hG : sp_GS G) (h : sp_nm m a b s) : sp_C l G M_Name_hasMark 0 0 [.ref a] m (sp_oI fun v m' => sp_bo v (sp_mark m b) ∧ m' = m) := by
  refine sp_enter (lv0 := [(0, false, va_rf (some a))]) "SafePaths$Name" false rfl (by decide) (fun h => by cases h) (Nat.le_of_ble_eq_true rfl) rfl ?_
  intro w X
  have hnm := h
  obtain ⟨ha, hb, hs, htb, hts, hls, hl⟩ := h
  refine sp_iconst X (pc := 0) (v := 0) dX3_hasMark_0 (by decide) ?_
  refine sp_istore_n X (pc := 1) (lv' := [(1, false, .int 0), (0, false, va_rf (some a))]) dX3_hasMark_1 rfl (by decide) rfl ?_
  have loop2 : ∀ (dz : Nat) (i : Nat), i ≤ m.ln b → (∀ j, j < i → ¬ sp_mk1 (m.aI b j)) → m.ln b - i = dz → w 0 0 m 2 [(0, false, va_rf (some a)), (1, false, .int (nI i))] [] := by
    intro dz
    induction dz using Nat.strongRecOn with
    | ind dz ih =>
      intro i hi0 hall hdz
      refine sp_iload_n X (pc := 2) (x := nI i) dX3_hasMark_2 rfl rfl ?_
      refine sp_aload_n X (pc := 3) (r := some a) dX3_hasMark_3 rfl rfl ?_
      refine sp_getfield X (pc := 4) (c := 4) (i := 0) (t := 2) (a := a) (v := va_rf (some b)) rfl (by first | assumption | omega) (by decide) rfl (congrArg va_rf hb) fl_Name_18 dX3_hasMark_4 ?_
      refine sp_arraylength X (pc := 7) (a := b) rfl (by omega) dX3_hasMark_7 ?_
      rw [show (Int32.ofNat (m.ln b)) = nI (m.ln b) from rfl]
      refine sp_icmp_ge X (pc := 8) (tgt := 34) dX3_hasMark_8 (by decide) (fun hb8 => ?_) (fun hb8 => ?_)
      · have hi : m.ln b ≤ i := sp_nge hb8 (by omega) (by omega)
        refine sp_iconst X (pc := 34) (v := 0) dX3_hasMark_34 (by decide) ?_
        refine sp_ireturn X (pc := 35) dX3_hasMark_35 rfl ⟨_, rfl, ?_⟩
        exact ⟨sp_bo.f (fun ⟨j, h1, h2⟩ => hall j (by omega) h2), rfl⟩
      · have hi : i < m.ln b := sp_nlt hb8 (by omega)
        refine sp_ldcS0 X (pc := 11) dX3_hasMark_11 ?_
        refine sp_aload_n X (pc := 13) (r := some a) dX3_hasMark_13 rfl rfl ?_
        refine sp_getfield X (pc := 14) (c := 4) (i := 0) (t := 2) (a := a) (v := va_rf (some b)) rfl (by first | assumption | omega) (by decide) rfl (congrArg va_rf hb) fl_Name_18 dX3_hasMark_14 ?_
        refine sp_iload_n X (pc := 17) (x := nI i) dX3_hasMark_17 rfl rfl ?_
        refine sp_iaload X (pc := 18) (a := b) rfl (by first | exact Or.inl (by assumption) | exact Or.inr (by assumption) | assumption) (vp_in_nI hi (by omega)) dX3_hasMark_18 ?_
        rw [show (m.aI b (nI i).toNatClampNeg) = m.aI b i from (by rw [nI_clamp (by omega)])]
        refine sp_i2c X (pc := 19) dX3_hasMark_19 ?_
        refine sp_callVS X (pc := 20) (mc := 0) (ms := 0) (As := [.int ((m.aI b i).toUInt32 % 65536).toInt32]) (rest := []) (c_String_indexOf1 l G _ (i := 0) hG (by decide)) ok_String_indexOf1 (by decide) rfl lk_Name_62 rfl rfl (Nat.zero_le _) (Nat.le_of_ble_eq_true rfl) (Nat.le_of_ble_eq_true rfl) (Nat.zero_le _) (Nat.zero_le _) dX3_hasMark_20 (sp_kI fun v20 m20 hp20 => ?_)
        obtain ⟨hp20, hp20m⟩ := hp20; replace hp20m := (hp20m).symm; subst hp20m
        refine sp_if_lt X (pc := 23) (tgt := 28) dX3_hasMark_23 (by decide) (fun hb23 => ?_) (fun hb23 => ?_)
        · refine sp_iinc X (pc := 28) (v := nI (i + 1)) (lv' := [(1, false, .int (nI (i + 1))), (0, false, va_rf (some a))]) dX3_hasMark_28 rfl (nI_1 i) (by decide) rfl ?_
          refine sp_goto X (pc := 31) (tgt := 2) dX3_hasMark_31 (by decide) ?_
          refine sp_pick X [1, 0] (lv' := [(0, false, va_rf (some a)), (1, false, .int (nI (i + 1)))]) rfl ?_
          refine ih (m.ln b - (i + 1)) (by omega) (i + 1) (by omega) (fun j hj => ?_) rfl
          rcases Nat.lt_or_ge j i with z | z
          · exact hall j z
          · rw [show j = i by omega]
            exact fun q => hp20.mpr q hb23
        · refine sp_iconst X (pc := 26) (v := 1) dX3_hasMark_26 (by decide) ?_
          refine sp_ireturn X (pc := 27) dX3_hasMark_27 rfl ⟨_, rfl, ?_⟩
          exact ⟨sp_bo.t ⟨i, hi, hp20.mp hb23⟩, rfl⟩
  refine sp_pick X [1, 0] (lv' := [(0, false, va_rf (some a)), (1, false, .int 0)]) rfl ?_
  exact loop2 _ 0 (Nat.zero_le _) (fun j hj => absurd hj (by omega)) rfl
set_option maxRecDepth 20000 in
theorem c_Name_beginsWithOneOf (l : Launch) (G : sp_G) (m : sp_M) {a b s i : Nat} (hG : sp_GS G) (hi : i < 3) (h : sp_nm m a b s) : sp_C l G M_Name_beginsWithOneOf 0 0 [.ref a, .ref (G.sk i)] m (sp_oI fun v m' => sp_bo v (sp_beg m s i) ∧ m' = m) := by
  refine sp_enter (lv0 := [(0, false, va_rf (some a)), (1, false, va_rf (some (G.sk i)))]) "SafePaths$Name" false rfl (by decide) (fun h => by cases h) (Nat.le_of_ble_eq_true rfl) rfl ?_
  intro w X
  have hnm := h
  obtain ⟨ha, hb, hs, htb, hts, hls, hl⟩ := h
  have hl9 := sp_sl_le i hi
  have hm3 : sp_sl i % 3 = sp_sl i % 3 := rfl
  refine sp_aload_n X (pc := 0) (r := some a) dX3_beginsWithOneOf_0 rfl rfl ?_
  refine sp_getfield X (pc := 1) (c := 4) (i := 1) (t := 2) (a := a) (v := va_rf (some s)) rfl (by first | assumption | omega) (by decide) rfl (congrArg va_rf hs) fl_Name_24 dX3_beginsWithOneOf_1 ?_
  refine sp_arraylength X (pc := 4) (a := s) rfl (by omega) dX3_beginsWithOneOf_4 ?_
  rw [show (Int32.ofNat (m.ln s)) = nI (m.ln s) from rfl]
  refine sp_iconst X (pc := 5) (v := 3) dX3_beginsWithOneOf_5 (by decide) ?_
  refine sp_icmp_ge X (pc := 6) (tgt := 11) dX3_beginsWithOneOf_6 (by decide) (fun hb6 => ?_) (fun hb6 => ?_)
  · have h3 : 3 ≤ m.ln s := sp_nge (b := 3) hb6 (by omega) (by omega)
    refine sp_iconst X (pc := 11) (v := 0) dX3_beginsWithOneOf_11 (by decide) ?_
    refine sp_istore_n X (pc := 12) (lv' := [(2, false, .int 0), (0, false, va_rf (some a)), (1, false, va_rf (some (G.sk i)))]) dX3_beginsWithOneOf_12 rfl (by decide) rfl ?_
    have loop13 : ∀ (dz : Nat) (q : Nat), q ≤ 4 → (∀ u, u < q → 3 * u + 2 < sp_sl i → ¬ (m.aI s 0 = sp_sb i (3 * u) ∧ m.aI s 1 = sp_sb i (3 * u + 1) ∧ m.aI s 2 = sp_sb i (3 * u + 2))) → 4 - q = dz → w 0 0 m 13 [(0, false, va_rf (some a)), (1, false, va_rf (some (G.sk i))), (2, false, .int (nI (3 * q)))] [] := by
      intro dz
      induction dz using Nat.strongRecOn with
      | ind dz ih =>
        intro q hq0 hall hdz
        have cut58 : ∀ (x : Int32), sp_bo x (m.aI s 0 = sp_sb i (3 * q) ∧ m.aI s 1 = sp_sb i (3 * q + 1)) → 3 * q + 2 < sp_sl i → w 0 0 m 58 [(0, false, va_rf (some a)), (1, false, va_rf (some (G.sk i))), (2, false, .int (nI (3 * q)))] [.int x] := by
          intro x hv hq
          refine sp_istore_n X (pc := 58) (lv' := [(3, false, .int x), (0, false, va_rf (some a)), (1, false, va_rf (some (G.sk i))), (2, false, .int (nI (3 * q)))]) dX3_beginsWithOneOf_58 rfl (by decide) rfl ?_
          refine sp_iload_n X (pc := 59) (x := x) dX3_beginsWithOneOf_59 rfl rfl ?_
          refine sp_if_eq X (pc := 60) (tgt := 81) dX3_beginsWithOneOf_60 (by decide) (fun hb60 => ?_) (fun hb60 => ?_)
          · have hv3 := hv.eq hb60
            refine sp_iinc X (pc := 81) (v := nI (3 * (q + 1))) (lv' := [(2, false, .int (nI (3 * (q + 1)))), (3, false, .int x), (0, false, va_rf (some a)), (1, false, va_rf (some (G.sk i)))]) dX3_beginsWithOneOf_81 rfl ((nI_add _ 3)) (by decide) rfl ?_
            refine sp_goto X (pc := 84) (tgt := 13) dX3_beginsWithOneOf_84 (by decide) ?_
            refine sp_pick X [2, 3, 0] (lv' := [(0, false, va_rf (some a)), (1, false, va_rf (some (G.sk i))), (2, false, .int (nI (3 * (q + 1))))]) rfl ?_
            refine ih (4 - (q + 1)) (by omega) (q + 1) (by omega) (fun u hu h1 h2 => ?_) rfl
            rcases Nat.lt_or_ge u q with z | z
            · exact hall u z h1 h2
            · have hu2 : u = q := by omega
              subst hu2
              first
                | exact hv3 ⟨h2.1, h2.2.1⟩
                | exact hb76 h2.2.2
          · have hv3 := hv.ne hb60
            refine sp_aload_n X (pc := 63) (r := some a) dX3_beginsWithOneOf_63 rfl rfl ?_
            refine sp_getfield X (pc := 64) (c := 4) (i := 1) (t := 2) (a := a) (v := va_rf (some s)) rfl (by first | assumption | omega) (by decide) rfl (congrArg va_rf hs) fl_Name_24 dX3_beginsWithOneOf_64 ?_
            refine sp_iconst X (pc := 67) (v := 2) dX3_beginsWithOneOf_67 (by decide) ?_
            refine sp_iaload X (pc := 68) (a := s) rfl (by first | exact Or.inl (by assumption) | exact Or.inr (by assumption) | assumption) (vp_in_nI (n := 2) (by omega) (by omega)) dX3_beginsWithOneOf_68 ?_
            rw [show (m.aI s (Int32.toNatClampNeg 2)) = m.aI s 2 from rfl]
            refine sp_aload_n X (pc := 69) (r := some (G.sk i)) dX3_beginsWithOneOf_69 rfl rfl ?_
            refine sp_iload_n X (pc := 70) (x := nI (3 * q)) dX3_beginsWithOneOf_70 rfl rfl ?_
            refine sp_iconst X (pc := 71) (v := 2) dX3_beginsWithOneOf_71 (by decide) ?_
            refine sp_iadd X (pc := 72) dX3_beginsWithOneOf_72 ?_
            rw [show ((nI (3 * q)) + 2) = nI (3 * q + 2) from (nI_add _ 2)]
            refine sp_callVS X (pc := 73) (mc := 0) (ms := 0) (As := [.int (nI (3 * q + 2))]) (rest := [.int (m.aI s 2)]) (c_String_charAt l G _ hG hi (by omega)) ok_String_charAt hi rfl lk_Name_82 rfl rfl (by simp [sp_cat_rf, sp_cat_i, sp_cat_l]) (Nat.le_of_ble_eq_true rfl) (Nat.le_of_ble_eq_true rfl) (Nat.zero_le _) (Nat.zero_le _) dX3_beginsWithOneOf_73 (sp_kI fun v73 m73 hp73 => ?_)
            obtain ⟨hp73v, hp73⟩ := hp73; replace hp73 := (hp73).symm; subst hp73; replace hp73v := (hp73v).symm; subst hp73v
            refine sp_icmp_ne X (pc := 76) (tgt := 81) dX3_beginsWithOneOf_76 (by decide) (fun hb76 => ?_) (fun hb76 => ?_)
            · refine sp_iinc X (pc := 81) (v := nI (3 * (q + 1))) (lv' := [(2, false, .int (nI (3 * (q + 1)))), (3, false, .int x), (0, false, va_rf (some a)), (1, false, va_rf (some (G.sk i)))]) dX3_beginsWithOneOf_81 rfl ((nI_add _ 3)) (by decide) rfl ?_
              refine sp_goto X (pc := 84) (tgt := 13) dX3_beginsWithOneOf_84 (by decide) ?_
              refine sp_pick X [2, 3, 0] (lv' := [(0, false, va_rf (some a)), (1, false, va_rf (some (G.sk i))), (2, false, .int (nI (3 * (q + 1))))]) rfl ?_
              refine ih (4 - (q + 1)) (by omega) (q + 1) (by omega) (fun u hu h1 h2 => ?_) rfl
              rcases Nat.lt_or_ge u q with z | z
              · exact hall u z h1 h2
              · have hu2 : u = q := by omega
                subst hu2
                first
                  | exact hv3 ⟨h2.1, h2.2.1⟩
                  | exact hb76 h2.2.2
            · refine sp_iconst X (pc := 79) (v := 1) dX3_beginsWithOneOf_79 (by decide) ?_
              refine sp_ireturn X (pc := 80) dX3_beginsWithOneOf_80 rfl ⟨_, rfl, ?_⟩
              exact ⟨sp_bo.t ⟨h3, q, hq, hv3.1, hv3.2, hb76⟩, rfl⟩
        refine sp_iload_n X (pc := 13) (x := nI (3 * q)) dX3_beginsWithOneOf_13 rfl rfl ?_
        refine sp_iconst X (pc := 14) (v := 2) dX3_beginsWithOneOf_14 (by decide) ?_
        refine sp_iadd X (pc := 15) dX3_beginsWithOneOf_15 ?_
        rw [show ((nI (3 * q)) + 2) = nI (3 * q + 2) from (nI_add _ 2)]
        refine sp_aload_n X (pc := 16) (r := some (G.sk i)) dX3_beginsWithOneOf_16 rfl rfl ?_
        refine sp_callVS X (pc := 17) (mc := 0) (ms := 0) (As := []) (rest := [.int (nI (3 * q + 2))]) (c_String_length l G _ hG hi) ok_String_length hi rfl lk_Name_79 rfl rfl (by simp [sp_cat_rf, sp_cat_i, sp_cat_l]) (Nat.le_of_ble_eq_true rfl) (Nat.le_of_ble_eq_true rfl) (Nat.zero_le _) (Nat.zero_le _) dX3_beginsWithOneOf_17 (sp_kI fun v17 m17 hp17 => ?_)
        obtain ⟨hp17v, hp17⟩ := hp17; replace hp17 := (hp17).symm; subst hp17; replace hp17v := (hp17v).symm; subst hp17v
        refine sp_icmp_ge X (pc := 20) (tgt := 87) dX3_beginsWithOneOf_20 (by decide) (fun hb20 => ?_) (fun hb20 => ?_)
        · have hq : sp_sl i ≤ 3 * q + 2 := sp_nge hb20 (by omega) (by omega)
          refine sp_iconst X (pc := 87) (v := 0) dX3_beginsWithOneOf_87 (by decide) ?_
          refine sp_ireturn X (pc := 88) dX3_beginsWithOneOf_88 rfl ⟨_, rfl, ?_⟩
          exact ⟨sp_bo.f (fun ⟨_, u, h1, h2⟩ => hall u (by omega) h1 h2), rfl⟩
        · have hq : 3 * q + 2 < sp_sl i := sp_nlt hb20 (by omega)
          refine sp_aload_n X (pc := 23) (r := some a) dX3_beginsWithOneOf_23 rfl rfl ?_
          refine sp_getfield X (pc := 24) (c := 4) (i := 1) (t := 2) (a := a) (v := va_rf (some s)) rfl (by first | assumption | omega) (by decide) rfl (congrArg va_rf hs) fl_Name_24 dX3_beginsWithOneOf_24 ?_
          refine sp_iconst X (pc := 27) (v := 0) dX3_beginsWithOneOf_27 (by decide) ?_
          refine sp_iaload X (pc := 28) (a := s) rfl (by first | exact Or.inl (by assumption) | exact Or.inr (by assumption) | assumption) (vp_in_nI (n := 0) (by omega) (by omega)) dX3_beginsWithOneOf_28 ?_
          rw [show (m.aI s (Int32.toNatClampNeg 0)) = m.aI s 0 from rfl]
          refine sp_aload_n X (pc := 29) (r := some (G.sk i)) dX3_beginsWithOneOf_29 rfl rfl ?_
          refine sp_iload_n X (pc := 30) (x := nI (3 * q)) dX3_beginsWithOneOf_30 rfl rfl ?_
          refine sp_callVS X (pc := 31) (mc := 0) (ms := 0) (As := [.int (nI (3 * q))]) (rest := [.int (m.aI s 0)]) (c_String_charAt l G _ hG hi (by omega)) ok_String_charAt hi rfl lk_Name_82 rfl rfl (by simp [sp_cat_rf, sp_cat_i, sp_cat_l]) (Nat.le_of_ble_eq_true rfl) (Nat.le_of_ble_eq_true rfl) (Nat.zero_le _) (Nat.zero_le _) dX3_beginsWithOneOf_31 (sp_kI fun v31 m31 hp31 => ?_)
          obtain ⟨hp31v, hp31⟩ := hp31; replace hp31 := (hp31).symm; subst hp31; replace hp31v := (hp31v).symm; subst hp31v
          refine sp_icmp_ne X (pc := 34) (tgt := 57) dX3_beginsWithOneOf_34 (by decide) (fun hb34 => ?_) (fun hb34 => ?_)
          · refine sp_iconst X (pc := 57) (v := 0) dX3_beginsWithOneOf_57 (by decide) ?_
            first
              | exact cut58 _ (sp_bo.t ⟨hb34, hb50⟩) hq
              | exact cut58 _ (sp_bo.f (fun z => hb34 z.1)) hq
              | exact cut58 _ (sp_bo.f (fun z => hb50 z.2)) hq
          · refine sp_aload_n X (pc := 37) (r := some a) dX3_beginsWithOneOf_37 rfl rfl ?_
            refine sp_getfield X (pc := 38) (c := 4) (i := 1) (t := 2) (a := a) (v := va_rf (some s)) rfl (by first | assumption | omega) (by decide) rfl (congrArg va_rf hs) fl_Name_24 dX3_beginsWithOneOf_38 ?_
            refine sp_iconst X (pc := 41) (v := 1) dX3_beginsWithOneOf_41 (by decide) ?_
            refine sp_iaload X (pc := 42) (a := s) rfl (by first | exact Or.inl (by assumption) | exact Or.inr (by assumption) | assumption) (vp_in_nI (n := 1) (by omega) (by omega)) dX3_beginsWithOneOf_42 ?_
            rw [show (m.aI s (Int32.toNatClampNeg 1)) = m.aI s 1 from rfl]
            refine sp_aload_n X (pc := 43) (r := some (G.sk i)) dX3_beginsWithOneOf_43 rfl rfl ?_
            refine sp_iload_n X (pc := 44) (x := nI (3 * q)) dX3_beginsWithOneOf_44 rfl rfl ?_
            refine sp_iconst X (pc := 45) (v := 1) dX3_beginsWithOneOf_45 (by decide) ?_
            refine sp_iadd X (pc := 46) dX3_beginsWithOneOf_46 ?_
            rw [show ((nI (3 * q)) + 1) = nI (3 * q + 1) from (nI_add _ 1)]
            refine sp_callVS X (pc := 47) (mc := 0) (ms := 0) (As := [.int (nI (3 * q + 1))]) (rest := [.int (m.aI s 1)]) (c_String_charAt l G _ hG hi (by omega)) ok_String_charAt hi rfl lk_Name_82 rfl rfl (by simp [sp_cat_rf, sp_cat_i, sp_cat_l]) (Nat.le_of_ble_eq_true rfl) (Nat.le_of_ble_eq_true rfl) (Nat.zero_le _) (Nat.zero_le _) dX3_beginsWithOneOf_47 (sp_kI fun v47 m47 hp47 => ?_)
            obtain ⟨hp47v, hp47⟩ := hp47; replace hp47 := (hp47).symm; subst hp47; replace hp47v := (hp47v).symm; subst hp47v
            refine sp_icmp_ne X (pc := 50) (tgt := 57) dX3_beginsWithOneOf_50 (by decide) (fun hb50 => ?_) (fun hb50 => ?_)
            · refine sp_iconst X (pc := 57) (v := 0) dX3_beginsWithOneOf_57 (by decide) ?_
              first
                | exact cut58 _ (sp_bo.t ⟨hb34, hb50⟩) hq
                | exact cut58 _ (sp_bo.f (fun z => hb34 z.1)) hq
                | exact cut58 _ (sp_bo.f (fun z => hb50 z.2)) hq
            · refine sp_iconst X (pc := 53) (v := 1) dX3_beginsWithOneOf_53 (by decide) ?_
              refine sp_goto X (pc := 54) (tgt := 58) dX3_beginsWithOneOf_54 (by decide) ?_
              first
                | exact cut58 _ (sp_bo.t ⟨hb34, hb50⟩) hq
                | exact cut58 _ (sp_bo.f (fun z => hb34 z.1)) hq
                | exact cut58 _ (sp_bo.f (fun z => hb50 z.2)) hq
    refine sp_pick X [1, 2, 0] (lv' := [(0, false, va_rf (some a)), (1, false, va_rf (some (G.sk i))), (2, false, .int 0)]) rfl ?_
    exact loop13 _ 0 (Nat.zero_le _) (fun j hj => absurd hj (by omega)) rfl
  · have h3 : ¬ 3 ≤ m.ln s := fun q => hb6 (nI_le (a := 3) q (by omega))
    refine sp_iconst X (pc := 9) (v := 0) dX3_beginsWithOneOf_9 (by decide) ?_
    refine sp_ireturn X (pc := 10) dX3_beginsWithOneOf_10 rfl ⟨_, rfl, ?_⟩
    exact ⟨sp_bo.f (fun q => h3 q.1), rfl⟩
set_option maxRecDepth 20000 in
theorem c_Name_isKeptWord (l : Launch) (G : sp_G) (m : sp_M) {a b s : Nat} (hG : sp_GS G) (h : sp_nm m a b s) : sp_C l G M_Name_isKeptWord 0 0 [.ref a] m (sp_oI fun v m' => sp_bo v (sp_kept m b s) ∧ m' = m) := by
  refine sp_enter (lv0 := [(0, false, va_rf (some a))]) "SafePaths$Name" false rfl (by decide) (fun h => by cases h) (Nat.le_of_ble_eq_true rfl) rfl ?_
  intro w X
  have hnm := h
  obtain ⟨ha, hb, hs, htb, hts, hls, hl⟩ := h
  refine sp_aload_n X (pc := 0) (r := some a) dX3_isKeptWord_0 rfl rfl ?_
  refine sp_callV X (pc := 1) (mc := 0) (ms := 0) (b := a) (c := 4) (r := some a) (As := []) (rest := []) (c_Name_lengthToFirstDot l G _ hnm) ok_Name_lengthToFirstDot rfl (by first | assumption | omega) (by decide) rfl lk_Name_67 rfl rfl (Nat.zero_le _) (Nat.le_of_ble_eq_true rfl) (Nat.le_of_ble_eq_true rfl) (Nat.zero_le _) (Nat.zero_le _) dX3_isKeptWord_1 (sp_kI fun v1 m1 hp1 => ?_)
  obtain ⟨hp1, hp1m⟩ := hp1; replace hp1m := (hp1m).symm; subst hp1m
  obtain ⟨t, rfl, hst⟩ := hp1
  have ht1 := hst.1
  refine sp_istore_n X (pc := 4) (lv' := [(1, false, .int (nI t)), (0, false, va_rf (some a))]) dX3_isKeptWord_4 rfl (by decide) rfl ?_
  refine sp_iload_n X (pc := 5) (x := nI t) dX3_isKeptWord_5 rfl rfl ?_
  refine sp_iconst X (pc := 6) (v := 3) dX3_isKeptWord_6 (by decide) ?_
  refine sp_icmp_ne X (pc := 7) (tgt := 17) dX3_isKeptWord_7 (by decide) (fun hb7 => ?_) (fun hb7 => ?_)
  · have ht : ¬ t = 3 := fun q => hb7 (by rw [q]; rfl)
    refine sp_aload_n X (pc := 17) (r := some a) dX3_isKeptWord_17 rfl rfl ?_
    refine sp_iconst X (pc := 18) (v := 3) dX3_isKeptWord_18 (by decide) ?_
    refine sp_callV X (pc := 19) (mc := 0) (ms := 0) (b := a) (c := 4) (r := some a) (As := [.int 3]) (rest := []) (c_Name_byteAt l G _ hnm) ok_Name_byteAt rfl (by first | assumption | omega) (by decide) rfl lk_Name_51 rfl rfl (Nat.zero_le _) (Nat.le_of_ble_eq_true rfl) (Nat.le_of_ble_eq_true rfl) (Nat.zero_le _) (Nat.zero_le _) dX3_isKeptWord_19 (sp_kI fun v19 m19 hp19 => ?_)
    obtain ⟨hp19, hp19m⟩ := hp19; replace hp19m := (hp19m).symm; subst hp19m
    refine sp_istore_n X (pc := 22) (lv' := [(2, false, .int v19), (1, false, .int (nI t)), (0, false, va_rf (some a))]) dX3_isKeptWord_22 rfl (by decide) rfl ?_
    refine sp_iload_n X (pc := 23) (x := nI t) dX3_isKeptWord_23 rfl rfl ?_
    refine sp_iconst X (pc := 24) (v := 4) dX3_isKeptWord_24 (by decide) ?_
    refine sp_icmp_ne X (pc := 25) (tgt := 53) dX3_isKeptWord_25 (by decide) (fun hb25 => ?_) (fun hb25 => ?_)
    · have ht4 : ¬ t = 4 := fun q => hb25 (by rw [q]; rfl)
      refine sp_iconst X (pc := 53) (v := 0) dX3_isKeptWord_53 (by decide) ?_
      refine sp_ireturn X (pc := 54) dX3_isKeptWord_54 rfl ⟨_, rfl, ?_⟩
      refine ⟨?_, rfl⟩
      first
        | (refine sp_bo.f ?_
           rintro (q | q)
           · exact ht (sp_stem_fun hst q.1)
           · first
               | exact ht4 (sp_stem_fun hst q.1)
               | exact absurd (show v19 < 49 from hb31) (by rw [hv19]; exact Int32.not_lt.mpr q.2.1)
               | exact absurd (show 57 < v19 from hb37) (by rw [hv19]; exact Int32.not_lt.mpr q.2.2.1)
               | exact hp43.eq hb46 q.2.2.2)
        | exact sp_bo.t (Or.inr ⟨hst, by rw [← hv19]; exact Int32.not_lt.mp hb31, by rw [← hv19]; exact Int32.not_lt.mp hb37, hp43.ne hb46⟩)
    · have ht4 : t = 4 := sp_neq (b := 4) hb25 (by omega) (by omega)
      subst ht4
      have hv19 : v19 = m.aI b 3 := by
        rcases hp19 with q | q
        · exact q.2
        · exact absurd (vp_in_nI (n := 3) (by omega) (by omega)) q.1
      refine sp_iload_n X (pc := 28) (x := v19) dX3_isKeptWord_28 rfl rfl ?_
      refine sp_bipush X (pc := 29) (v := 49) dX3_isKeptWord_29 (by decide) ?_
      refine sp_icmp_lt X (pc := 31) (tgt := 53) dX3_isKeptWord_31 (by decide) (fun hb31 => ?_) (fun hb31 => ?_)
      · refine sp_iconst X (pc := 53) (v := 0) dX3_isKeptWord_53 (by decide) ?_
        refine sp_ireturn X (pc := 54) dX3_isKeptWord_54 rfl ⟨_, rfl, ?_⟩
        refine ⟨?_, rfl⟩
        first
          | (refine sp_bo.f ?_
             rintro (q | q)
             · exact ht (sp_stem_fun hst q.1)
             · first
                 | exact ht4 (sp_stem_fun hst q.1)
                 | exact absurd (show v19 < 49 from hb31) (by rw [hv19]; exact Int32.not_lt.mpr q.2.1)
                 | exact absurd (show 57 < v19 from hb37) (by rw [hv19]; exact Int32.not_lt.mpr q.2.2.1)
                 | exact hp43.eq hb46 q.2.2.2)
          | exact sp_bo.t (Or.inr ⟨hst, by rw [← hv19]; exact Int32.not_lt.mp hb31, by rw [← hv19]; exact Int32.not_lt.mp hb37, hp43.ne hb46⟩)
      · refine sp_iload_n X (pc := 34) (x := v19) dX3_isKeptWord_34 rfl rfl ?_
        refine sp_bipush X (pc := 35) (v := 57) dX3_isKeptWord_35 (by decide) ?_
        refine sp_icmp_gt X (pc := 37) (tgt := 53) dX3_isKeptWord_37 (by decide) (fun hb37 => ?_) (fun hb37 => ?_)
        · refine sp_iconst X (pc := 53) (v := 0) dX3_isKeptWord_53 (by decide) ?_
          refine sp_ireturn X (pc := 54) dX3_isKeptWord_54 rfl ⟨_, rfl, ?_⟩
          refine ⟨?_, rfl⟩
          first
            | (refine sp_bo.f ?_
               rintro (q | q)
               · exact ht (sp_stem_fun hst q.1)
               · first
                   | exact ht4 (sp_stem_fun hst q.1)
                   | exact absurd (show v19 < 49 from hb31) (by rw [hv19]; exact Int32.not_lt.mpr q.2.1)
                   | exact absurd (show 57 < v19 from hb37) (by rw [hv19]; exact Int32.not_lt.mpr q.2.2.1)
                   | exact hp43.eq hb46 q.2.2.2)
            | exact sp_bo.t (Or.inr ⟨hst, by rw [← hv19]; exact Int32.not_lt.mp hb31, by rw [← hv19]; exact Int32.not_lt.mp hb37, hp43.ne hb46⟩)
        · refine sp_aload_n X (pc := 40) (r := some a) dX3_isKeptWord_40 rfl rfl ?_
          refine sp_ldcS2 X (pc := 41) dX3_isKeptWord_41 ?_
          refine sp_callV X (pc := 43) (mc := 0) (ms := 0) (b := a) (c := 4) (r := some a) (As := [va_rf (some (G.sk 2))]) (rest := []) (c_Name_beginsWithOneOf l G _ hG (by decide) hnm) ok_Name_beginsWithOneOf rfl (by first | assumption | omega) (by decide) rfl lk_Name_73 rfl rfl (Nat.zero_le _) (Nat.le_of_ble_eq_true rfl) (Nat.le_of_ble_eq_true rfl) (Nat.zero_le _) (Nat.zero_le _) dX3_isKeptWord_43 (sp_kI fun v43 m43 hp43 => ?_)
          obtain ⟨hp43, hp43m⟩ := hp43; replace hp43m := (hp43m).symm; subst hp43m
          refine sp_if_eq X (pc := 46) (tgt := 53) dX3_isKeptWord_46 (by decide) (fun hb46 => ?_) (fun hb46 => ?_)
          · refine sp_iconst X (pc := 53) (v := 0) dX3_isKeptWord_53 (by decide) ?_
            refine sp_ireturn X (pc := 54) dX3_isKeptWord_54 rfl ⟨_, rfl, ?_⟩
            refine ⟨?_, rfl⟩
            first
              | (refine sp_bo.f ?_
                 rintro (q | q)
                 · exact ht (sp_stem_fun hst q.1)
                 · first
                     | exact ht4 (sp_stem_fun hst q.1)
                     | exact absurd (show v19 < 49 from hb31) (by rw [hv19]; exact Int32.not_lt.mpr q.2.1)
                     | exact absurd (show 57 < v19 from hb37) (by rw [hv19]; exact Int32.not_lt.mpr q.2.2.1)
                     | exact hp43.eq hb46 q.2.2.2)
              | exact sp_bo.t (Or.inr ⟨hst, by rw [← hv19]; exact Int32.not_lt.mp hb31, by rw [← hv19]; exact Int32.not_lt.mp hb37, hp43.ne hb46⟩)
          · refine sp_iconst X (pc := 49) (v := 1) dX3_isKeptWord_49 (by decide) ?_
            refine sp_goto X (pc := 50) (tgt := 54) dX3_isKeptWord_50 (by decide) ?_
            refine sp_ireturn X (pc := 54) dX3_isKeptWord_54 rfl ⟨_, rfl, ?_⟩
            refine ⟨?_, rfl⟩
            first
              | (refine sp_bo.f ?_
                 rintro (q | q)
                 · exact ht (sp_stem_fun hst q.1)
                 · first
                     | exact ht4 (sp_stem_fun hst q.1)
                     | exact absurd (show v19 < 49 from hb31) (by rw [hv19]; exact Int32.not_lt.mpr q.2.1)
                     | exact absurd (show 57 < v19 from hb37) (by rw [hv19]; exact Int32.not_lt.mpr q.2.2.1)
                     | exact hp43.eq hb46 q.2.2.2)
              | exact sp_bo.t (Or.inr ⟨hst, by rw [← hv19]; exact Int32.not_lt.mp hb31, by rw [← hv19]; exact Int32.not_lt.mp hb37, hp43.ne hb46⟩)
  · have ht : t = 3 := sp_neq (b := 3) hb7 (by omega) (by omega)
    subst ht
    refine sp_aload_n X (pc := 10) (r := some a) dX3_isKeptWord_10 rfl rfl ?_
    refine sp_ldcS1 X (pc := 11) dX3_isKeptWord_11 ?_
    refine sp_callV X (pc := 13) (mc := 0) (ms := 0) (b := a) (c := 4) (r := some a) (As := [va_rf (some (G.sk 1))]) (rest := []) (c_Name_beginsWithOneOf l G _ hG (by decide) hnm) ok_Name_beginsWithOneOf rfl (by first | assumption | omega) (by decide) rfl lk_Name_73 rfl rfl (Nat.zero_le _) (Nat.le_of_ble_eq_true rfl) (Nat.le_of_ble_eq_true rfl) (Nat.zero_le _) (Nat.zero_le _) dX3_isKeptWord_13 (sp_kI fun v13 m13 hp13 => ?_)
    obtain ⟨hp13, hp13m⟩ := hp13; replace hp13m := (hp13m).symm; subst hp13m
    refine sp_ireturn X (pc := 16) dX3_isKeptWord_16 hp13.nar ⟨_, rfl, ?_⟩
    refine ⟨hp13.iff ⟨fun q => Or.inl ⟨hst, q⟩, fun q => ?_⟩, rfl⟩
    rcases q with q | q
    · exact q.2
    · exact absurd (sp_stem_fun hst q.1) (by decide)
set_option maxRecDepth 20000 in
theorem c_Name_isOfOtherSystems (l : Launch) (G : sp_G) (m : sp_M) {a b s : Nat} (hG : sp_GS G) (h : sp_nm m a b s) : sp_C l G M_Name_isOfOtherSystems 0 0 [.ref a] m (sp_oI fun v m' => sp_bo v (sp_oth m b s) ∧ m' = m) := by
  refine sp_enter (lv0 := [(0, false, va_rf (some a))]) "SafePaths$Name" false rfl (by decide) (fun h => by cases h) (Nat.le_of_ble_eq_true rfl) rfl ?_
  intro w X
  have hnm := h
  obtain ⟨ha, hb, hs, htb, hts, hls, hl⟩ := h
  refine sp_aload_n X (pc := 0) (r := some a) dX3_isOfOtherSystems_0 rfl rfl ?_
  refine sp_aload_n X (pc := 1) (r := some a) dX3_isOfOtherSystems_1 rfl rfl ?_
  refine sp_getfield X (pc := 2) (c := 4) (i := 0) (t := 2) (a := a) (v := va_rf (some b)) rfl (by first | assumption | omega) (by decide) rfl (congrArg va_rf hb) fl_Name_18 dX3_isOfOtherSystems_2 ?_
  refine sp_arraylength X (pc := 5) (a := b) rfl (by omega) dX3_isOfOtherSystems_5 ?_
  rw [show (Int32.ofNat (m.ln b)) = nI (m.ln b) from rfl]
  refine sp_iconst X (pc := 6) (v := 1) dX3_isOfOtherSystems_6 (by decide) ?_
  refine sp_isub X (pc := 7) dX3_isOfOtherSystems_7 ?_
  refine sp_callV X (pc := 8) (mc := 0) (ms := 0) (b := a) (c := 4) (r := some a) (As := [.int ((nI (m.ln b)) - 1)]) (rest := []) (c_Name_byteAt l G _ hnm) ok_Name_byteAt rfl (by first | assumption | omega) (by decide) rfl lk_Name_51 rfl rfl (Nat.zero_le _) (Nat.le_of_ble_eq_true rfl) (Nat.le_of_ble_eq_true rfl) (Nat.zero_le _) (Nat.zero_le _) dX3_isOfOtherSystems_8 (sp_kI fun v8 m8 hp8 => ?_)
  obtain ⟨hp8, hp8m⟩ := hp8; replace hp8m := (hp8m).symm; subst hp8m
  have hv8 : v8 = 46 ∨ v8 = 32 ↔ 0 < m.ln b ∧ (m.aI b (m.ln b - 1) = 46 ∨ m.aI b (m.ln b - 1) = 32) := by
    rcases Nat.eq_zero_or_pos (m.ln b) with h0 | h0
    · rcases hp8 with q | q
      · rw [h0] at q
        exact absurd q.1 (fun z => z (Or.inl (by decide)))
      · rw [q.2]
        constructor
        · rintro (z | z) <;> exact absurd z (by decide)
        · intro z
          omega
    · have e1 : nI (m.ln b) - 1 = nI (m.ln b - 1) := by rw [show (1 : Int32) = nI 1 from rfl, pk_sub (by omega)]
      rcases hp8 with q | q
      · rw [e1, nI_clamp (by omega)] at q
        rw [q.2]
        exact ⟨fun z => ⟨h0, z⟩, fun z => z.2⟩
      · rw [e1] at q
        exact absurd (vp_in_nI (by omega) (by omega)) q.1
  refine sp_istore_n X (pc := 11) (lv' := [(1, false, .int v8), (0, false, va_rf (some a))]) dX3_isOfOtherSystems_11 rfl (by decide) rfl ?_
  refine sp_iload_n X (pc := 12) (x := v8) dX3_isOfOtherSystems_12 rfl rfl ?_
  refine sp_bipush X (pc := 13) (v := 46) dX3_isOfOtherSystems_13 (by decide) ?_
  refine sp_icmp_eq X (pc := 15) (tgt := 38) dX3_isOfOtherSystems_15 (by decide) (fun hb15 => ?_) (fun hb15 => ?_)
  · refine sp_iconst X (pc := 38) (v := 1) dX3_isOfOtherSystems_38 (by decide) ?_
    refine sp_goto X (pc := 39) (tgt := 43) dX3_isOfOtherSystems_39 (by decide) ?_
    refine sp_ireturn X (pc := 43) dX3_isOfOtherSystems_43 rfl ⟨_, rfl, ?_⟩
    refine ⟨?_, rfl⟩
    first
      | exact sp_bo.t (Or.inl (hv8.mp (Or.inl hb15)))
      | exact sp_bo.t (Or.inl (hv8.mp (Or.inr hb21)))
      | exact sp_bo.t (Or.inr (Or.inl (hp25.ne hb28)))
      | exact sp_bo.t (Or.inr (Or.inr (hp32.ne hb35)))
      | (refine sp_bo.f ?_
         rintro (q | q | q)
         · rcases hv8.mpr q with z | z
           · exact hb15 z
           · exact hb21 z
         · exact hp25.eq hb28 q
         · exact hp32.eq hb35 q)
  · refine sp_iload_n X (pc := 18) (x := v8) dX3_isOfOtherSystems_18 rfl rfl ?_
    refine sp_bipush X (pc := 19) (v := 32) dX3_isOfOtherSystems_19 (by decide) ?_
    refine sp_icmp_eq X (pc := 21) (tgt := 38) dX3_isOfOtherSystems_21 (by decide) (fun hb21 => ?_) (fun hb21 => ?_)
    · refine sp_iconst X (pc := 38) (v := 1) dX3_isOfOtherSystems_38 (by decide) ?_
      refine sp_goto X (pc := 39) (tgt := 43) dX3_isOfOtherSystems_39 (by decide) ?_
      refine sp_ireturn X (pc := 43) dX3_isOfOtherSystems_43 rfl ⟨_, rfl, ?_⟩
      refine ⟨?_, rfl⟩
      first
        | exact sp_bo.t (Or.inl (hv8.mp (Or.inl hb15)))
        | exact sp_bo.t (Or.inl (hv8.mp (Or.inr hb21)))
        | exact sp_bo.t (Or.inr (Or.inl (hp25.ne hb28)))
        | exact sp_bo.t (Or.inr (Or.inr (hp32.ne hb35)))
        | (refine sp_bo.f ?_
           rintro (q | q | q)
           · rcases hv8.mpr q with z | z
             · exact hb15 z
             · exact hb21 z
           · exact hp25.eq hb28 q
           · exact hp32.eq hb35 q)
    · refine sp_aload_n X (pc := 24) (r := some a) dX3_isOfOtherSystems_24 rfl rfl ?_
      refine sp_callV X (pc := 25) (mc := 0) (ms := 0) (b := a) (c := 4) (r := some a) (As := []) (rest := []) (c_Name_hasMark l G _ hG hnm) ok_Name_hasMark rfl (by first | assumption | omega) (by decide) rfl lk_Name_54 rfl rfl (Nat.zero_le _) (Nat.le_of_ble_eq_true rfl) (Nat.le_of_ble_eq_true rfl) (Nat.zero_le _) (Nat.zero_le _) dX3_isOfOtherSystems_25 (sp_kI fun v25 m25 hp25 => ?_)
      obtain ⟨hp25, hp25m⟩ := hp25; replace hp25m := (hp25m).symm; subst hp25m
      refine sp_if_ne X (pc := 28) (tgt := 38) dX3_isOfOtherSystems_28 (by decide) (fun hb28 => ?_) (fun hb28 => ?_)
      · refine sp_iconst X (pc := 38) (v := 1) dX3_isOfOtherSystems_38 (by decide) ?_
        refine sp_goto X (pc := 39) (tgt := 43) dX3_isOfOtherSystems_39 (by decide) ?_
        refine sp_ireturn X (pc := 43) dX3_isOfOtherSystems_43 rfl ⟨_, rfl, ?_⟩
        refine ⟨?_, rfl⟩
        first
          | exact sp_bo.t (Or.inl (hv8.mp (Or.inl hb15)))
          | exact sp_bo.t (Or.inl (hv8.mp (Or.inr hb21)))
          | exact sp_bo.t (Or.inr (Or.inl (hp25.ne hb28)))
          | exact sp_bo.t (Or.inr (Or.inr (hp32.ne hb35)))
          | (refine sp_bo.f ?_
             rintro (q | q | q)
             · rcases hv8.mpr q with z | z
               · exact hb15 z
               · exact hb21 z
             · exact hp25.eq hb28 q
             · exact hp32.eq hb35 q)
      · refine sp_aload_n X (pc := 31) (r := some a) dX3_isOfOtherSystems_31 rfl rfl ?_
        refine sp_callV X (pc := 32) (mc := 0) (ms := 0) (b := a) (c := 4) (r := some a) (As := []) (rest := []) (c_Name_isKeptWord l G _ hG hnm) ok_Name_isKeptWord rfl (by first | assumption | omega) (by decide) rfl lk_Name_57 rfl rfl (Nat.zero_le _) (Nat.le_of_ble_eq_true rfl) (Nat.le_of_ble_eq_true rfl) (Nat.zero_le _) (Nat.zero_le _) dX3_isOfOtherSystems_32 (sp_kI fun v32 m32 hp32 => ?_)
        obtain ⟨hp32, hp32m⟩ := hp32; replace hp32m := (hp32m).symm; subst hp32m
        refine sp_if_eq X (pc := 35) (tgt := 42) dX3_isOfOtherSystems_35 (by decide) (fun hb35 => ?_) (fun hb35 => ?_)
        · refine sp_iconst X (pc := 42) (v := 0) dX3_isOfOtherSystems_42 (by decide) ?_
          refine sp_ireturn X (pc := 43) dX3_isOfOtherSystems_43 rfl ⟨_, rfl, ?_⟩
          refine ⟨?_, rfl⟩
          first
            | exact sp_bo.t (Or.inl (hv8.mp (Or.inl hb15)))
            | exact sp_bo.t (Or.inl (hv8.mp (Or.inr hb21)))
            | exact sp_bo.t (Or.inr (Or.inl (hp25.ne hb28)))
            | exact sp_bo.t (Or.inr (Or.inr (hp32.ne hb35)))
            | (refine sp_bo.f ?_
               rintro (q | q | q)
               · rcases hv8.mpr q with z | z
                 · exact hb15 z
                 · exact hb21 z
               · exact hp25.eq hb28 q
               · exact hp32.eq hb35 q)
        · refine sp_iconst X (pc := 38) (v := 1) dX3_isOfOtherSystems_38 (by decide) ?_
          refine sp_goto X (pc := 39) (tgt := 43) dX3_isOfOtherSystems_39 (by decide) ?_
          refine sp_ireturn X (pc := 43) dX3_isOfOtherSystems_43 rfl ⟨_, rfl, ?_⟩
          refine ⟨?_, rfl⟩
          first
            | exact sp_bo.t (Or.inl (hv8.mp (Or.inl hb15)))
            | exact sp_bo.t (Or.inl (hv8.mp (Or.inr hb21)))
            | exact sp_bo.t (Or.inr (Or.inl (hp25.ne hb28)))
            | exact sp_bo.t (Or.inr (Or.inr (hp32.ne hb35)))
            | (refine sp_bo.f ?_
               rintro (q | q | q)
               · rcases hv8.mpr q with z | z
                 · exact hb15 z
                 · exact hb21 z
               · exact hp25.eq hb28 q
               · exact hp32.eq hb35 q)
set_option maxRecDepth 20000 in
theorem c_Name_judge (l : Launch) (G : sp_G) (m : sp_M) {a b s rl : Nat} (hG : sp_GS G) (h : sp_nm m a b s) (hr : m.ty rl = 9) : sp_C l G M_Name_judge 0 0 [.ref a, .ref rl] m (sp_oI fun v m' => ((v = -3 ∧ sp_isUp m b) ∨ (v = -4 ∧ ¬ sp_isUp m b ∧ (sp_ctl m b ∨ (¬ m.fI 515 rl = 0 ∧ sp_oth m b s))) ∨ (v = -5 ∧ ¬ sp_isUp m b ∧ ¬ (sp_ctl m b ∨ (¬ m.fI 515 rl = 0 ∧ sp_oth m b s)) ∧ 16 < m.ln b) ∨ (v = 0 ∧ ¬ sp_isUp m b ∧ ¬ (sp_ctl m b ∨ (¬ m.fI 515 rl = 0 ∧ sp_oth m b s)) ∧ m.ln b ≤ 16)) ∧ m' = m) := by
  refine sp_enter (lv0 := [(0, false, va_rf (some a)), (1, false, va_rf (some rl))]) "SafePaths$Name" false rfl (by decide) (fun h => by cases h) (Nat.le_of_ble_eq_true rfl) rfl ?_
  intro w X
  have hnm := h
  obtain ⟨ha, hb, hs, htb, hts, hls, hl⟩ := h
  refine sp_aload_n X (pc := 0) (r := some a) dX3_judge_0 rfl rfl ?_
  refine sp_callV X (pc := 1) (mc := 0) (ms := 0) (b := a) (c := 4) (r := some a) (As := []) (rest := []) (c_Name_isUp l G _ hnm) ok_Name_isUp rfl (by first | assumption | omega) (by decide) rfl lk_Name_35 rfl rfl (Nat.zero_le _) (Nat.le_of_ble_eq_true rfl) (Nat.le_of_ble_eq_true rfl) (Nat.zero_le _) (Nat.zero_le _) dX3_judge_1 (sp_kI fun v1 m1 hp1 => ?_)
  obtain ⟨hp1, hp1m⟩ := hp1; replace hp1m := (hp1m).symm; subst hp1m
  refine sp_if_eq X (pc := 4) (tgt := 10) dX3_judge_4 (by decide) (fun hb4 => ?_) (fun hb4 => ?_)
  · refine sp_aload_n X (pc := 10) (r := some a) dX3_judge_10 rfl rfl ?_
    refine sp_callV X (pc := 11) (mc := 0) (ms := 0) (b := a) (c := 4) (r := some a) (As := []) (rest := []) (c_Name_hasControlByte l G _ hnm) ok_Name_hasControlByte rfl (by first | assumption | omega) (by decide) rfl lk_Name_39 rfl rfl (Nat.zero_le _) (Nat.le_of_ble_eq_true rfl) (Nat.le_of_ble_eq_true rfl) (Nat.zero_le _) (Nat.zero_le _) dX3_judge_11 (sp_kI fun v11 m11 hp11 => ?_)
    obtain ⟨hp11, hp11m⟩ := hp11; replace hp11m := (hp11m).symm; subst hp11m
    refine sp_if_ne X (pc := 14) (tgt := 31) dX3_judge_14 (by decide) (fun hb14 => ?_) (fun hb14 => ?_)
    · refine sp_bipush X (pc := 31) (v := (-4)) dX3_judge_31 (by decide) ?_
      refine sp_ireturn X (pc := 33) dX3_judge_33 rfl ⟨_, rfl, ?_⟩
      first
        | exact ⟨Or.inr (Or.inl ⟨rfl, hp1.eq hb4, Or.inl (hp11.ne hb14)⟩), rfl⟩
        | exact ⟨Or.inr (Or.inl ⟨rfl, hp1.eq hb4, Or.inr ⟨hb21, hp25.ne hb28⟩⟩), rfl⟩
    · refine sp_aload_n X (pc := 17) (r := some rl) dX3_judge_17 rfl rfl ?_
      refine sp_getfield X (pc := 18) (c := 8) (i := 3) (t := 0) (a := rl) (v := .int (m.fI 515 rl)) rfl (by first | assumption | omega) (by decide) rfl rfl fl_Name_42 dX3_judge_18 ?_
      refine sp_if_eq X (pc := 21) (tgt := 34) dX3_judge_21 (by decide) (fun hb21 => ?_) (fun hb21 => ?_)
      · have hnb : ¬ (sp_ctl m b ∨ (¬ m.fI 515 rl = 0 ∧ sp_oth m b s)) := by
          rintro (q | q)
          · exact hp11.eq hb14 q
          · first
              | exact q.1 hb21
              | exact hp25.eq hb28 q.2
        refine sp_aload_n X (pc := 34) (r := some a) dX3_judge_34 rfl rfl ?_
        refine sp_getfield X (pc := 35) (c := 4) (i := 0) (t := 2) (a := a) (v := va_rf (some b)) rfl (by first | assumption | omega) (by decide) rfl (congrArg va_rf hb) fl_Name_18 dX3_judge_35 ?_
        refine sp_arraylength X (pc := 38) (a := b) rfl (by omega) dX3_judge_38 ?_
        rw [show (Int32.ofNat (m.ln b)) = nI (m.ln b) from rfl]
        refine sp_bipush X (pc := 39) (v := 16) dX3_judge_39 (by decide) ?_
        refine sp_icmp_le X (pc := 41) (tgt := 49) dX3_judge_41 (by decide) (fun hb41 => ?_) (fun hb41 => ?_)
        · have h16 : m.ln b ≤ 16 := sp_nge (a := 16) hb41 (by omega) (by omega)
          refine sp_iconst X (pc := 49) (v := 0) dX3_judge_49 (by decide) ?_
          refine sp_ireturn X (pc := 50) dX3_judge_50 rfl ⟨_, rfl, ?_⟩
          first
            | exact ⟨Or.inr (Or.inr (Or.inl ⟨rfl, hp1.eq hb4, hnb, h16⟩)), rfl⟩
            | exact ⟨Or.inr (Or.inr (Or.inr ⟨rfl, hp1.eq hb4, hnb, h16⟩)), rfl⟩
        · have h16 : 16 < m.ln b := sp_nlt (a := 16) hb41 (by omega)
          refine sp_bipush X (pc := 44) (v := (-5)) dX3_judge_44 (by decide) ?_
          refine sp_goto X (pc := 46) (tgt := 50) dX3_judge_46 (by decide) ?_
          refine sp_ireturn X (pc := 50) dX3_judge_50 rfl ⟨_, rfl, ?_⟩
          first
            | exact ⟨Or.inr (Or.inr (Or.inl ⟨rfl, hp1.eq hb4, hnb, h16⟩)), rfl⟩
            | exact ⟨Or.inr (Or.inr (Or.inr ⟨rfl, hp1.eq hb4, hnb, h16⟩)), rfl⟩
      · refine sp_aload_n X (pc := 24) (r := some a) dX3_judge_24 rfl rfl ?_
        refine sp_callV X (pc := 25) (mc := 0) (ms := 0) (b := a) (c := 4) (r := some a) (As := []) (rest := []) (c_Name_isOfOtherSystems l G _ hG hnm) ok_Name_isOfOtherSystems rfl (by first | assumption | omega) (by decide) rfl lk_Name_48 rfl rfl (Nat.zero_le _) (Nat.le_of_ble_eq_true rfl) (Nat.le_of_ble_eq_true rfl) (Nat.zero_le _) (Nat.zero_le _) dX3_judge_25 (sp_kI fun v25 m25 hp25 => ?_)
        obtain ⟨hp25, hp25m⟩ := hp25; replace hp25m := (hp25m).symm; subst hp25m
        refine sp_if_eq X (pc := 28) (tgt := 34) dX3_judge_28 (by decide) (fun hb28 => ?_) (fun hb28 => ?_)
        · have hnb : ¬ (sp_ctl m b ∨ (¬ m.fI 515 rl = 0 ∧ sp_oth m b s)) := by
            rintro (q | q)
            · exact hp11.eq hb14 q
            · first
                | exact q.1 hb21
                | exact hp25.eq hb28 q.2
          refine sp_aload_n X (pc := 34) (r := some a) dX3_judge_34 rfl rfl ?_
          refine sp_getfield X (pc := 35) (c := 4) (i := 0) (t := 2) (a := a) (v := va_rf (some b)) rfl (by first | assumption | omega) (by decide) rfl (congrArg va_rf hb) fl_Name_18 dX3_judge_35 ?_
          refine sp_arraylength X (pc := 38) (a := b) rfl (by omega) dX3_judge_38 ?_
          rw [show (Int32.ofNat (m.ln b)) = nI (m.ln b) from rfl]
          refine sp_bipush X (pc := 39) (v := 16) dX3_judge_39 (by decide) ?_
          refine sp_icmp_le X (pc := 41) (tgt := 49) dX3_judge_41 (by decide) (fun hb41 => ?_) (fun hb41 => ?_)
          · have h16 : m.ln b ≤ 16 := sp_nge (a := 16) hb41 (by omega) (by omega)
            refine sp_iconst X (pc := 49) (v := 0) dX3_judge_49 (by decide) ?_
            refine sp_ireturn X (pc := 50) dX3_judge_50 rfl ⟨_, rfl, ?_⟩
            first
              | exact ⟨Or.inr (Or.inr (Or.inl ⟨rfl, hp1.eq hb4, hnb, h16⟩)), rfl⟩
              | exact ⟨Or.inr (Or.inr (Or.inr ⟨rfl, hp1.eq hb4, hnb, h16⟩)), rfl⟩
          · have h16 : 16 < m.ln b := sp_nlt (a := 16) hb41 (by omega)
            refine sp_bipush X (pc := 44) (v := (-5)) dX3_judge_44 (by decide) ?_
            refine sp_goto X (pc := 46) (tgt := 50) dX3_judge_46 (by decide) ?_
            refine sp_ireturn X (pc := 50) dX3_judge_50 rfl ⟨_, rfl, ?_⟩
            first
              | exact ⟨Or.inr (Or.inr (Or.inl ⟨rfl, hp1.eq hb4, hnb, h16⟩)), rfl⟩
              | exact ⟨Or.inr (Or.inr (Or.inr ⟨rfl, hp1.eq hb4, hnb, h16⟩)), rfl⟩
        · refine sp_bipush X (pc := 31) (v := (-4)) dX3_judge_31 (by decide) ?_
          refine sp_ireturn X (pc := 33) dX3_judge_33 rfl ⟨_, rfl, ?_⟩
          first
            | exact ⟨Or.inr (Or.inl ⟨rfl, hp1.eq hb4, Or.inl (hp11.ne hb14)⟩), rfl⟩
            | exact ⟨Or.inr (Or.inl ⟨rfl, hp1.eq hb4, Or.inr ⟨hb21, hp25.ne hb28⟩⟩), rfl⟩
  · refine sp_bipush X (pc := 7) (v := (-3)) dX3_judge_7 (by decide) ?_
    refine sp_ireturn X (pc := 9) dX3_judge_9 rfl ⟨_, rfl, ?_⟩
    exact ⟨Or.inl ⟨rfl, hp1.ne hb4⟩, rfl⟩
