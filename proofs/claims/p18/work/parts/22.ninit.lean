
theorem sp_clamp0 (x : Int32) : (if x < 0 then 0 else x) = (if x < 0 then 0 else x) := rfl
set_option maxHeartbeats 2000000 in
set_option maxRecDepth 20000 in
theorem c_Name_init (l : Launch) (G : sp_G) (m : sp_M) {o a1 f n : Nat} (ho : m.ty o = 5) (ha1 : m.ty a1 = 20 ∨ m.ty a1 = 24) (hl1 : m.ln a1 ≤ 1000) (hf : f + n ≤ m.ln a1) : sp_C l G M_Name_init 2 (2 * n) [.ref o, .ref a1, .int (nI f), .int (nI (f + n))] m (sp_oV fun m' => m' = sp_mkN m o n (fun j => m.aI a1 (f + j))) := by
  refine sp_enter (lv0 := [(0, false, va_rf (some o)), (1, false, va_rf (some a1)), (2, false, .int (nI f)), (3, false, .int (nI (f + n)))]) "SafePaths$Name" true rfl (by decide) (fun _ => rfl) (Nat.le_of_ble_eq_true rfl) rfl ?_
  intro w X
  refine sp_fresh X (fun hwf hbs => ?_)
  have hon : o < m.nx := hwf o (by omega)
  have han : a1 < m.nx := hwf a1 (by omega)
  refine sp_aload_n X (pc := 0) (r := some o) dX3_init_0 rfl rfl ?_
  refine sp_objInit X (pc := 1) (a := o) rfl lk_Name_3 oi_1 oi_2 (Nat.le_of_ble_eq_true rfl) (Nat.le_of_ble_eq_true rfl) dX3_init_1 ?_
  refine sp_iload_n X (pc := 4) (x := nI f) dX3_init_4 rfl rfl ?_
  refine sp_iconst X (pc := 5) (v := 0) dX3_init_5 (by decide) ?_
  refine sp_callS X (pc := 6) (mc := 0) (ms := 0) (As := [.int (nI f), .int 0]) (rest := []) (c_Math_max l G _) ok_Math_max lk_Name_9 rfl rfl (Nat.zero_le _) (Nat.le_of_ble_eq_true rfl) (Nat.le_of_ble_eq_true rfl) (Nat.zero_le _) (Nat.zero_le _) dX3_init_6 (sp_kI fun v6 m6 hp6 => ?_)
  obtain ⟨hp6v, hp6⟩ := hp6; replace hp6 := (hp6).symm; subst hp6; replace hp6v := (hp6v).symm; subst hp6v
  rw [show (if nI f < (0 : Int32) then (0 : Int32) else nI f) = nI f by rw [if_neg (nI_pos (by omega))]]
  refine sp_istore X (pc := 9) (lv' := [(4, false, .int (nI f)), (0, false, va_rf (some o)), (1, false, va_rf (some a1)), (2, false, .int (nI f)), (3, false, .int (nI (f + n)))]) dX3_init_9  (by decide) rfl ?_
  refine sp_iload_n X (pc := 11) (x := nI (f + n)) dX3_init_11 rfl rfl ?_
  refine sp_aload_n X (pc := 12) (r := some a1) dX3_init_12 rfl rfl ?_
  refine sp_arraylength X (pc := 13) (a := a1) rfl (by omega) dX3_init_13 ?_
  rw [show (Int32.ofNat (m.ln a1)) = nI (m.ln a1) from rfl]
  refine sp_callS X (pc := 14) (mc := 0) (ms := 0) (As := [.int (nI (f + n)), .int (nI (m.ln a1))]) (rest := []) (c_Math_min l G _) ok_Math_min lk_Name_15 rfl rfl (Nat.zero_le _) (Nat.le_of_ble_eq_true rfl) (Nat.le_of_ble_eq_true rfl) (Nat.zero_le _) (Nat.zero_le _) dX3_init_14 (sp_kI fun v14 m14 hp14 => ?_)
  obtain ⟨hp14v, hp14⟩ := hp14; replace hp14 := (hp14).symm; subst hp14; replace hp14v := (hp14v).symm; subst hp14v
  rw [show (if nI (m.ln a1) < nI (f + n) then nI (m.ln a1) else nI (f + n)) = nI (f + n) by rw [if_neg (nI_nlt (by omega) (by omega))]]
  refine sp_istore X (pc := 17) (lv' := [(5, false, .int (nI (f + n))), (4, false, .int (nI f)), (0, false, va_rf (some o)), (1, false, va_rf (some a1)), (2, false, .int (nI f)), (3, false, .int (nI (f + n)))]) dX3_init_17  (by decide) rfl ?_
  refine sp_iload X (pc := 19) (x := nI (f + n)) dX3_init_19 rfl ?_
  refine sp_iload X (pc := 21) (x := nI f) dX3_init_21 rfl ?_
  refine sp_isub X (pc := 23) dX3_init_23 ?_
  rw [show ((nI (f + n)) - (nI f)) = nI n from (by rw [pk_sub (by omega)]; congr 1; omega)]
  refine sp_iconst X (pc := 24) (v := 0) dX3_init_24 (by decide) ?_
  refine sp_callS X (pc := 25) (mc := 0) (ms := 0) (As := [.int (nI n), .int 0]) (rest := []) (c_Math_max l G _) ok_Math_max lk_Name_9 rfl rfl (Nat.zero_le _) (Nat.le_of_ble_eq_true rfl) (Nat.le_of_ble_eq_true rfl) (Nat.zero_le _) (Nat.zero_le _) dX3_init_25 (sp_kI fun v25 m25 hp25 => ?_)
  obtain ⟨hp25v, hp25⟩ := hp25; replace hp25 := (hp25).symm; subst hp25; replace hp25v := (hp25v).symm; subst hp25v
  rw [show (if nI n < (0 : Int32) then (0 : Int32) else nI n) = nI n by rw [if_neg (nI_pos (by omega))]]
  refine sp_istore X (pc := 28) (lv' := [(6, false, .int (nI n)), (5, false, .int (nI (f + n))), (4, false, .int (nI f)), (0, false, va_rf (some o)), (1, false, va_rf (some a1)), (2, false, .int (nI f)), (3, false, .int (nI (f + n)))]) dX3_init_28  (by decide) rfl ?_
  refine sp_aload_n X (pc := 30) (r := some o) dX3_init_30 rfl rfl ?_
  refine sp_iload X (pc := 31) (x := nI n) dX3_init_31 rfl ?_
  refine sp_newarrI X (pc := 33) (N := n) (nI_pos (by omega)) (nI_clamp (by omega)) (by omega) (by decide) (by omega) dX3_init_33 ?_
  refine sp_putR X (pc := 35) (c := 4) (i := 0) (q := 256) (a := o) rfl (by rw [sp_newA_ty, if_neg (by omega)]; exact ho) (by decide) rfl rfl (Or.inr ⟨rfl, rfl, rfl⟩)  fl_Name_18 dX3_init_35 ?_
  refine sp_aload_n X (pc := 38) (r := some o) dX3_init_38 rfl rfl ?_
  refine sp_iload X (pc := 39) (x := nI n) dX3_init_39 rfl ?_
  refine sp_newarrI X (pc := 41) (N := n) (nI_pos (by omega)) (nI_clamp (by omega)) (by omega) (by decide) (by omega) dX3_init_41 ?_
  refine sp_putR X (pc := 43) (c := 4) (i := 1) (q := 257) (a := o) rfl (by show (((m.newA 20 n).pR 256 o (some m.nx)).newA 20 n).ty o = _; rw [sp_newA_ty, if_neg (by show ¬ o = m.nx + 1; omega)]; show (m.newA 20 n).ty o = _; rw [sp_newA_ty, if_neg (by omega)]; exact ho) (by decide) rfl rfl (Or.inr ⟨rfl, rfl, rfl⟩)  fl_Name_24 dX3_init_43 ?_
  obtain ⟨m1, hm1⟩ : ∃ m1, m1 = ((((m.newA 20 n).pR 256 o (some m.nx)).newA 20 n).pR 257 o (some (m.nx + 1))) := ⟨_, rfl⟩
  have e1 : m1.ty o = 5 := by
    rw [hm1]; show (if o = m.nx + 1 then 20 else if o = m.nx then 20 else m.ty o) = _
    rw [if_neg (by omega), if_neg (by omega)]; exact ho
  have e2 : m1.fR 256 o = some m.nx := by
    rw [hm1, sp_pR_fR, if_neg (by simp)]; show ((m.newA 20 n).pR 256 o (some m.nx)).fR 256 o = _
    rw [sp_pR_fR, if_pos ⟨rfl, rfl⟩]
  have e3 : m1.fR 257 o = some (m.nx + 1) := by rw [hm1, sp_pR_fR, if_pos ⟨rfl, rfl⟩]
  have e4 : m1.ty m.nx = 20 := by
    rw [hm1]; show (if m.nx = m.nx + 1 then 20 else if m.nx = m.nx then 20 else m.ty m.nx) = _
    rw [if_neg (by omega), if_pos rfl]
  have e5 : m1.ty (m.nx + 1) = 20 := by
    rw [hm1]; show (if m.nx + 1 = m.nx + 1 then 20 else _) = _
    rw [if_pos rfl]
  have e6 : m1.ln m.nx = n := by
    rw [hm1]; show (if m.nx = m.nx + 1 then n else if m.nx = m.nx then n else m.ln m.nx) = _
    rw [if_neg (by omega), if_pos rfl]
  have e7 : m1.ln (m.nx + 1) = n := by
    rw [hm1]; show (if m.nx + 1 = m.nx + 1 then n else _) = _
    rw [if_pos rfl]
  have e8 : m1.ty a1 = 20 ∨ m1.ty a1 = 24 := by
    rw [hm1]; show (if a1 = m.nx + 1 then 20 else if a1 = m.nx then 20 else m.ty a1) = _ ∨ (if a1 = m.nx + 1 then 20 else if a1 = m.nx then 20 else m.ty a1) = _
    rw [if_neg (by omega), if_neg (by omega)]; exact ha1
  have e9 : m1.ln a1 = m.ln a1 := by
    rw [hm1]; show (if a1 = m.nx + 1 then n else if a1 = m.nx then n else m.ln a1) = _
    rw [if_neg (by omega), if_neg (by omega)]
  have e10 : ∀ j, m1.aI a1 j = m.aI a1 j := fun j => by
    rw [hm1]; show (if a1 = m.nx + 1 then 0 else if a1 = m.nx then 0 else m.aI a1 j) = _
    rw [if_neg (by omega), if_neg (by omega)]
  have e11 : ∀ j, m1.aI m.nx j = 0 := fun j => by
    rw [hm1]; show (if m.nx = m.nx + 1 then 0 else if m.nx = m.nx then 0 else m.aI m.nx j) = _
    rw [if_neg (by omega), if_pos rfl]
  have e12 : ∀ j, m1.aI (m.nx + 1) j = 0 := fun j => by
    rw [hm1]; show (if m.nx + 1 = m.nx + 1 then 0 else _) = _
    rw [if_pos rfl]
  have hpost : ∀ m', m' = (m1.wI m.nx (fun j => if j < n then m.aI a1 (f + j) else 0)).wI (m.nx + 1) (fun j => if j < n then sp_sm (m.aI a1 (f + j)) else 0) → m' = sp_mkN m o n (fun j => m.aI a1 (f + j)) := fun m' h9 => by
    rw [h9, hm1]
    rfl
  rw [show ((((m.newA 20 n).pR 256 o (some m.nx)).newA 20 n).pR 257 o (some ((m.newA 20 n).pR 256 o (some m.nx)).nx)) = m1 from hm1.symm]
  clear hm1
  refine sp_iconst X (pc := 46) (v := 0) dX3_init_46 (by decide) ?_
  refine sp_istore X (pc := 47) (lv' := [(7, false, .int 0), (6, false, .int (nI n)), (5, false, .int (nI (f + n))), (4, false, .int (nI f)), (0, false, va_rf (some o)), (1, false, va_rf (some a1)), (2, false, .int (nI f)), (3, false, .int (nI (f + n)))]) dX3_init_47  (by decide) rfl ?_
  have loop49 : ∀ (dz : Nat) (i : Nat), i ≤ n → n - i = dz → w 0 0 ((m1.wI m.nx (fun j => if j < i then m.aI a1 (f + j) else 0)).wI (m.nx + 1) (fun j => if j < i then sp_sm (m.aI a1 (f + j)) else 0)) 49 [(0, false, va_rf (some o)), (1, false, va_rf (some a1)), (4, false, .int (nI f)), (6, false, .int (nI n)), (7, false, .int (nI i))] [] := by
    intro dz
    induction dz using Nat.strongRecOn with
    | ind dz ih =>
      intro i hi0 hdz
      refine sp_iload X (pc := 49) (x := nI i) dX3_init_49 rfl ?_
      refine sp_iload X (pc := 51) (x := nI n) dX3_init_51 rfl ?_
      refine sp_icmp_ge X (pc := 53) (tgt := 93) dX3_init_53 (by decide) (fun hb53 => ?_) (fun hb53 => ?_)
      · have hi : n ≤ i := sp_nge hb53 (by omega) (by omega)
        refine sp_return X (pc := 93) dX3_init_93 ⟨rfl, ?_⟩
        rw [show i = n by omega]
        exact hpost _ rfl
      · have hi : i < n := sp_nlt hb53 (by omega)
        refine sp_aload_n X (pc := 56) (r := some o) dX3_init_56 rfl rfl ?_
        refine sp_getfield X (pc := 57) (c := 4) (i := 0) (t := 2) (a := o) (v := va_rf (some m.nx)) rfl e1 (by decide) rfl (congrArg va_rf e2) fl_Name_18 dX3_init_57 ?_
        refine sp_iload X (pc := 60) (x := nI i) dX3_init_60 rfl ?_
        refine sp_aload_n X (pc := 62) (r := some a1) dX3_init_62 rfl rfl ?_
        refine sp_iload X (pc := 63) (x := nI f) dX3_init_63 rfl ?_
        refine sp_iload X (pc := 65) (x := nI i) dX3_init_65 rfl ?_
        refine sp_iadd X (pc := 67) dX3_init_67 ?_
        rw [show ((nI f) + (nI i)) = nI (f + i) from (nI_add _ _)]
        refine sp_iaload X (pc := 68) (a := a1) rfl e8 (by show vp_in _ (m1.ln a1); rw [e9]; exact vp_in_nI (by omega) (by omega)) dX3_init_68 ?_
        rw [show (((m1.wI m.nx (fun j => if j < i then m.aI a1 (f + j) else 0)).wI (m.nx + 1) (fun j => if j < i then sp_sm (m.aI a1 (f + j)) else 0)).aI a1 (nI (f + i)).toNatClampNeg) = m.aI a1 (f + i) from (by
  rw [nI_clamp (by omega), sp_wI_aI, if_neg (by omega), sp_wI_aI, if_neg (by omega), e10])]
        refine sp_iastore X (pc := 69) (a := m.nx) rfl e4 (by show vp_in _ (m1.ln m.nx); rw [e6]; exact vp_in_nI hi (by omega))  dX3_init_69 ?_
        rw [show (nI i).toNatClampNeg = i from nI_clamp (by omega)]
        rw [sp_wI_sIc _ _ _ _ _ _ (by omega), sp_wI_sI]
        refine sp_aload_n X (pc := 70) (r := some o) dX3_init_70 rfl rfl ?_
        refine sp_getfield X (pc := 71) (c := 4) (i := 1) (t := 2) (a := o) (v := va_rf (some (m.nx + 1))) rfl e1 (by decide) rfl (congrArg va_rf e3) fl_Name_24 dX3_init_71 ?_
        refine sp_iload X (pc := 74) (x := nI i) dX3_init_74 rfl ?_
        refine sp_aload_n X (pc := 76) (r := some o) dX3_init_76 rfl rfl ?_
        refine sp_getfield X (pc := 77) (c := 4) (i := 0) (t := 2) (a := o) (v := va_rf (some m.nx)) rfl e1 (by decide) rfl (congrArg va_rf e2) fl_Name_18 dX3_init_77 ?_
        refine sp_iload X (pc := 80) (x := nI i) dX3_init_80 rfl ?_
        refine sp_iaload X (pc := 82) (a := m.nx) rfl (Or.inl e4) (by show vp_in _ (m1.ln m.nx); rw [e6]; exact vp_in_nI hi (by omega)) dX3_init_82 ?_
        rw [show (((m1.wI m.nx (fun j => if j = i then m.aI a1 (f + i) else if j < i then m.aI a1 (f + j) else 0)).wI (m.nx + 1) (fun j => if j < i then sp_sm (m.aI a1 (f + j)) else 0)).aI m.nx (nI i).toNatClampNeg) = m.aI a1 (f + i) from (by
  rw [nI_clamp (by omega), sp_wI_aI, if_neg (by omega), sp_wI_aI, if_pos rfl, if_pos rfl])]
        refine sp_callS X (pc := 83) (mc := 0) (ms := 0) (As := [.int (m.aI a1 (f + i))]) (rest := [.int (nI i), va_rf (some (m.nx + 1))]) (c_Name_smallLetter l G _) ok_Name_smallLetter lk_Name_27 rfl rfl (by simp [sp_cat_rf, sp_cat_i, sp_cat_l]) (Nat.le_of_ble_eq_true rfl) (Nat.le_of_ble_eq_true rfl) (Nat.zero_le _) (Nat.zero_le _) dX3_init_83 (sp_kI fun v83 m83 hp83 => ?_)
        obtain ⟨hp83v, hp83⟩ := hp83; replace hp83 := (hp83).symm; subst hp83; replace hp83v := (hp83v).symm; subst hp83v
        refine sp_iastore X (pc := 86) (a := (m.nx + 1)) rfl e5 (by show vp_in _ (m1.ln (m.nx + 1)); rw [e7]; exact vp_in_nI hi (by omega))  dX3_init_86 ?_
        rw [show (nI i).toNatClampNeg = i from nI_clamp (by omega)]
        rw [sp_wI_sI]
        refine sp_iinc X (pc := 87) (v := nI (i + 1)) (lv' := [(7, false, .int (nI (i + 1))), (0, false, va_rf (some o)), (1, false, va_rf (some a1)), (4, false, .int (nI f)), (6, false, .int (nI n))]) dX3_init_87 rfl (nI_1 i) (by decide) rfl ?_
        refine sp_goto X (pc := 90) (tgt := 49) dX3_init_90 (by decide) ?_
        refine sp_pick X [1, 2, 3, 4, 0] (lv' := [(0, false, va_rf (some o)), (1, false, va_rf (some a1)), (4, false, .int (nI f)), (6, false, .int (nI n)), (7, false, .int (nI (i + 1)))]) rfl ?_
        have hz := ih (n - (i + 1)) (by omega) (i + 1) (by omega) rfl
        have f1 : ∀ (g : Nat → Int32), (fun j => if j < i + 1 then g j else 0) = (fun j => if j = i then g i else if j < i then g j else 0) := fun g => by
          funext j
          by_cases q : j = i
          · subst q
            rw [if_pos (by omega), if_pos rfl]
          · rw [if_neg q]
            by_cases q2 : j < i
            · rw [if_pos q2, if_pos (by omega)]
            · rw [if_neg q2, if_neg (by omega)]
        rw [f1 (fun j => m.aI a1 (f + j)), f1 (fun j => sp_sm (m.aI a1 (f + j)))] at hz
        exact hz
  refine sp_pick X [4, 5, 3, 1, 0] (lv' := [(0, false, va_rf (some o)), (1, false, va_rf (some a1)), (4, false, .int (nI f)), (6, false, .int (nI n)), (7, false, .int 0)]) rfl ?_
  refine sp_less X (k' := 0) (n' := 0) (Nat.zero_le _) (Nat.zero_le _) ?_
  have hz := loop49 _ 0 (Nat.zero_le _) rfl
  rw [sp_wI_id m1 m.nx _ (fun j => by rw [if_neg (by omega), e11]), sp_wI_id m1 (m.nx + 1) _ (fun j => by rw [if_neg (by omega), e12])] at hz
  exact hz
