
/-- the statics that are read -/
def sp_GS (G : sp_G) : Prop := ("java/util/ArrayList", "DEFAULTCAPACITY_EMPTY_ELEMENTDATA", "[Ljava/lang/Object;", Value.ref (G.sk 3)) ∈ G.st ∧ ("SafePaths", "NO_BYTES", "[I", Value.ref (G.sk 4)) ∈ G.st ∧ ("SafePaths", "OUT", "[I", Value.ref (G.sk 5)) ∈ G.st ∧ ("SafePaths", "HOME", "[I", Value.ref (G.sk 6)) ∈ G.st ∧ ("SafePaths", "KEY", "[I", Value.ref (G.sk 7)) ∈ G.st ∧ ("java/lang/String", "COMPACT_STRINGS", "Z", Value.int 1) ∈ G.st
/-- a list at o: its row ed, its size s -/
def sp_li (G : sp_G) (m : sp_M) (o ed s : Nat) : Prop := m.ty o = 1 ∧ m.fR 1 o = some ed ∧ m.fI 2 o = nI s ∧ s ≤ m.ln ed ∧ m.ln ed ≤ 100000 ∧ ((m.ty ed = 23 ∧ 0 < m.ln ed) ∨ (m.ty ed = 25 ∧ ed = G.sk 3 ∧ m.ln ed = 0))
def sp_cap (c : Nat) : Nat := if c = 0 then 10 else c + max 1 (c / 2)
/-- an object that may lie in a list -/
def sp_ob (m : sp_M) (y : Nat) : Prop := ∃ c, m.ty y = c + 1 ∧ c < 14 ∧ Cond.castable (sp_Cn c) "java/lang/Object" ∈ lw_tbl
theorem sp_li.row {G : sp_G} {m : sp_M} {o ed s : Nat} (h : sp_li G m o ed s) (hs : 0 < s) : m.ty ed = 23 := by
  obtain ⟨-, -, -, h1, -, h2⟩ := h
  rcases h2 with h2 | h2
  · exact h2.1
  · omega
theorem sp_C_mono {l : Launch} {G : sp_G} {Y : sp_Me} {mc ms : Nat} {av : List Value} {m : sp_M} {post post' : Option Value → sp_M → Prop} (h : ∀ r m', post r m' → post' r m') (hC : sp_C l G Y mc ms av m post) : sp_C l G Y mc ms av m post' := by
  intro p e ha hc hk s mm args below hf hpre hP hT
  obtain ⟨k, o, h1, h2, h3, ⟨r, m', hr, hH, hp⟩, h5⟩ := hC p e ha hc hk s mm args below hf hpre hP hT
  exact ⟨k, o, h1, h2, h3, ⟨r, m', hr, hH, h r m' hp⟩, h5⟩
theorem sp_nI1 : (1 : Int32) = nI 1 := by decide +kernel
set_option maxRecDepth 20000 in
theorem c_Precond_checkIndex (l : Launch) (G : sp_G) (m : sp_M) {x y : Int32} {r : Option Nat} (h0 : ¬ x < 0) (h1 : x < y) : sp_C l G M_Precond_checkIndex 0 0 [.int x, .int y, va_rf r] m (sp_oI fun v m' => v = x ∧ m' = m) := by
  refine sp_enterF (lv0 := [(0, false, .int x), (1, false, .int y), (2, false, va_rf r)]) "jdk/internal/util/Preconditions" false rfl (by decide +kernel) (fun h => by cases h) (by simp [lg_sl, sp_cat_rf, sp_cat_i, sp_cat_l, sp_cat_ref]) (by simp [sp_args, sp_cat_rf, sp_cat_i, sp_cat_l, sp_beq12, sp_beq22, sp_cat_ref, sp_rf_some]; done) ?_
  intro w X
  refine sp_iload_n X (pc := 0) (x := x) dJ3_checkIndex_8e157_0 rfl rfl ?_
  refine sp_if_lt X (pc := 1) (tgt := 9) dJ3_checkIndex_8e157_1 (by decide) (fun hb1 => ?_) (fun hb1 => ?_)
  · exact absurd hb1 h0 --stop
  · refine sp_iload_n X (pc := 4) (x := x) dJ3_checkIndex_8e157_4 rfl rfl ?_
    refine sp_iload_n X (pc := 5) (x := y) dJ3_checkIndex_8e157_5 rfl rfl ?_
    refine sp_icmp_lt X (pc := 6) (tgt := 16) dJ3_checkIndex_8e157_6 (by decide) (fun hb6 => ?_) (fun hb6 => ?_)
    · refine sp_iload_n X (pc := 16) (x := x) dJ3_checkIndex_8e157_16 rfl rfl ?_
      refine sp_ireturn X (pc := 17) dJ3_checkIndex_8e157_17 rfl ⟨_, rfl, ?_⟩
      first | exact ⟨rfl, rfl⟩ | rfl | (refine ⟨?_, rfl⟩; first | (rw [if_pos (by assumption)]; done) | (rw [if_neg (by assumption)]; done) | (split <;> simp_all; done))
    · exact absurd h1 hb6 --stop
set_option maxRecDepth 20000 in
theorem c_Objects_checkIndex (l : Launch) (G : sp_G) (m : sp_M) {x y : Int32} (h0 : ¬ x < 0) (h1 : x < y) : sp_C l G M_Objects_checkIndex 0 0 [.int x, .int y] m (sp_oI fun v m' => v = x ∧ m' = m) := by
  refine sp_enterF (lv0 := [(0, false, .int x), (1, false, .int y)]) "java/util/Objects" false rfl (by decide +kernel) (fun h => by cases h) (Nat.le_of_ble_eq_true rfl) rfl ?_
  intro w X
  refine sp_iload_n X (pc := 0) (x := x) dJ15_checkIndex_7cf53_0 rfl rfl ?_
  refine sp_iload_n X (pc := 1) (x := y) dJ15_checkIndex_7cf53_1 rfl rfl ?_
  refine sp_null X (pc := 2) dJ15_checkIndex_7cf53_2 ?_
  refine sp_callS X (pc := 3) (mc := 0) (ms := 0) (As := [.int x, .int y, va_rf none]) (rest := []) (c_Precond_checkIndex l G _ (by assumption) (by assumption)) ok_Precond_checkIndex lk_Objects_105 rfl rfl (Nat.zero_le _) (Nat.le_of_ble_eq_true rfl) (Nat.le_of_ble_eq_true rfl) (Nat.zero_le _) (Nat.zero_le _) dJ15_checkIndex_7cf53_3 (sp_kI fun v3 m3 hp3 => ?_)
  obtain ⟨hp3v, hp3⟩ := hp3; replace hp3 := (hp3).symm; subst hp3; replace hp3v := (hp3v).symm; subst hp3v
  refine sp_ireturn X (pc := 6) dJ15_checkIndex_7cf53_6 rfl ⟨_, rfl, ?_⟩
  first | exact ⟨rfl, rfl⟩ | rfl | (refine ⟨?_, rfl⟩; first | (rw [if_pos (by assumption)]; done) | (rw [if_neg (by assumption)]; done) | (split <;> simp_all; done))
set_option maxRecDepth 20000 in
theorem c_List_elementData (l : Launch) (G : sp_G) (m : sp_M) {o ed : Nat} {i : Int32} (ho : m.ty o = 1) (he : m.fR 1 o = some ed) (hed : m.ty ed = 23) (hin : vp_in i (m.ln ed)) : sp_C l G M_List_elementData 0 0 [.ref o, .int i] m (sp_oR fun v m' => v = m.aR ed i.toNatClampNeg ∧ m' = m) := by
  refine sp_enter (lv0 := [(0, false, va_rf (some o)), (1, false, .int i)]) "java/util/ArrayList" false rfl (by decide) (fun h => by cases h) (Nat.le_of_ble_eq_true rfl) rfl ?_
  intro w X
  refine sp_aload_n X (pc := 0) (r := some o) dJx4a65c_elementData_915e3_0 rfl rfl ?_
  refine sp_getfield X (pc := 1) (c := 0) (i := 1) (t := 2) (a := o) (v := va_rf (some ed)) rfl (by first | assumption | omega) (by decide) rfl (congrArg va_rf he) fl_List_9 dJx4a65c_elementData_915e3_1 ?_
  refine sp_iload_n X (pc := 4) (x := i) dJx4a65c_elementData_915e3_4 rfl rfl ?_
  refine sp_aaload X (pc := 5) (a := ed) rfl (by first | assumption | omega) (by first | assumption) dJx4a65c_elementData_915e3_5 ?_
  refine sp_areturn X (pc := 6) (by first | exact Or.inl ⟨_, rfl⟩ | exact Or.inr ⟨_, rfl⟩) dJx4a65c_elementData_915e3_6 ⟨_, rfl, ?_⟩
  first | exact ⟨rfl, rfl⟩ | rfl | (refine ⟨?_, rfl⟩; first | (rw [if_pos (by assumption)]; done) | (rw [if_neg (by assumption)]; done) | (split <;> simp_all; done))
set_option maxRecDepth 20000 in
theorem c_List_get (l : Launch) (G : sp_G) (m : sp_M) {o ed s j : Nat} (h : sp_li G m o ed s) (hj : j < s) : sp_C l G M_List_get 0 0 [.ref o, .int (nI j)] m (sp_oR fun v m' => v = m.aR ed j ∧ m' = m) := by
  refine sp_enter (lv0 := [(0, false, va_rf (some o)), (1, false, .int (nI j))]) "java/util/ArrayList" false rfl (by decide) (fun h => by cases h) (Nat.le_of_ble_eq_true rfl) rfl ?_
  intro w X
  have hed := h.row (by omega)
  obtain ⟨ho, he, hs, hsl, hln, -⟩ := h
  refine sp_iload_n X (pc := 0) (x := nI j) dJx4a65c_get_915e3_0 rfl rfl ?_
  refine sp_aload_n X (pc := 1) (r := some o) dJx4a65c_get_915e3_1 rfl rfl ?_
  refine sp_getfield X (pc := 2) (c := 0) (i := 2) (t := 0) (a := o) (v := .int (m.fI 2 o)) rfl (by first | assumption | omega) (by decide) rfl rfl fl_List_48 dJx4a65c_get_915e3_2 ?_
  refine sp_callS X (pc := 5) (mc := 0) (ms := 0) (As := [.int (nI j), .int (m.fI 2 o)]) (rest := []) (c_Objects_checkIndex l G _ (nI_pos (by omega)) (by rw [hs]; exact nI_lt hj (by omega))) ok_Objects_checkIndex lk_List_118 rfl rfl (Nat.zero_le _) (Nat.le_of_ble_eq_true rfl) (Nat.le_of_ble_eq_true rfl) (Nat.zero_le _) (Nat.zero_le _) dJx4a65c_get_915e3_5 (sp_kI fun v5 m5 hp5 => ?_)
  obtain ⟨hp5v, hp5⟩ := hp5; replace hp5 := (hp5).symm; subst hp5; replace hp5v := (hp5v).symm; subst hp5v
  refine sp_pop X (pc := 8) dJx4a65c_get_915e3_8 rfl ?_
  refine sp_aload_n X (pc := 9) (r := some o) dJx4a65c_get_915e3_9 rfl rfl ?_
  refine sp_iload_n X (pc := 10) (x := nI j) dJx4a65c_get_915e3_10 rfl rfl ?_
  refine sp_callV X (pc := 11) (mc := 0) (ms := 0) (b := o) (c := 0) (r := some o) (As := [.int (nI j)]) (rest := []) (c_List_elementData l G _ ho he hed (vp_in_nI (by omega) (by omega))) ok_List_elementData rfl (by first | assumption | omega) (by decide) rfl lk_List_123 rfl rfl (Nat.zero_le _) (Nat.le_of_ble_eq_true rfl) (Nat.le_of_ble_eq_true rfl) (Nat.zero_le _) (Nat.zero_le _) dJx4a65c_get_915e3_11 (sp_kR fun v11 m11 hp11 => ?_)
  obtain ⟨hp11v, hp11⟩ := hp11; replace hp11 := (hp11).symm; subst hp11; replace hp11v := (hp11v).symm; subst hp11v
  refine sp_areturn X (pc := 14) (by first | exact Or.inl ⟨_, rfl⟩ | exact Or.inr ⟨_, rfl⟩) dJx4a65c_get_915e3_14 ⟨_, rfl, ?_⟩
  exact ⟨by rw [nI_clamp (by omega)], rfl⟩
set_option maxRecDepth 20000 in
theorem c_ASup_newLength (l : Launch) (G : sp_G) (m : sp_M) {a b : Nat} (hab : a + max 1 b ≤ 200000) : sp_C l G M_ASup_newLength 0 0 [.int (nI a), .int (nI 1), .int (nI b)] m (sp_oI fun v m' => v = nI (a + max 1 b) ∧ m' = m) := by
  refine sp_enter (lv0 := [(0, false, .int (nI a)), (1, false, .int (nI 1)), (2, false, .int (nI b))]) "jdk/internal/util/ArraysSupport" false rfl (by decide) (fun h => by cases h) (Nat.le_of_ble_eq_true rfl) rfl ?_
  intro w X
  refine sp_iload_n X (pc := 0) (x := nI a) dJ8_newLength_cabcc_0 rfl rfl ?_
  refine sp_iload_n X (pc := 1) (x := nI 1) dJ8_newLength_cabcc_1 rfl rfl ?_
  refine sp_iload_n X (pc := 2) (x := nI b) dJ8_newLength_cabcc_2 rfl rfl ?_
  refine sp_callS X (pc := 3) (mc := 0) (ms := 0) (As := [.int (nI 1), .int (nI b)]) (rest := [.int (nI a)]) (c_Math_max l G _) ok_Math_max lk_ASup_194 rfl rfl (by simp [sp_cat_rf, sp_cat_i, sp_cat_l]) (Nat.le_of_ble_eq_true rfl) (Nat.le_of_ble_eq_true rfl) (Nat.zero_le _) (Nat.zero_le _) dJ8_newLength_cabcc_3 (sp_kI fun v3 m3 hp3 => ?_)
  obtain ⟨hp3v, hp3⟩ := hp3; replace hp3 := (hp3).symm; subst hp3; replace hp3v := (hp3v).symm; subst hp3v
  rw [show (if nI 1 < nI b then nI b else nI 1) = nI (max 1 b) by
    by_cases hq : 1 < b
    · rw [if_pos (nI_lt hq (by omega)), Nat.max_eq_right (by omega)]
    · rw [if_neg (nI_nlt (by omega) (by omega)), Nat.max_eq_left (by omega)]]
  refine sp_iadd X (pc := 6) dJ8_newLength_cabcc_6 ?_
  rw [show ((nI a) + (nI (max 1 b))) = nI (a + max 1 b) from nI_add _ _]
  refine sp_istore_n X (pc := 7) (lv' := [(3, false, .int (nI (a + max 1 b))), (0, false, .int (nI a)), (1, false, .int (nI 1)), (2, false, .int (nI b))]) dJ8_newLength_cabcc_7 rfl (by decide) rfl ?_
  refine sp_iconst X (pc := 8) (v := 0) dJ8_newLength_cabcc_8 (by decide) ?_
  refine sp_iload_n X (pc := 9) (x := nI (a + max 1 b)) dJ8_newLength_cabcc_9 rfl rfl ?_
  refine sp_icmp_ge X (pc := 10) (tgt := 21) dJ8_newLength_cabcc_10 (by decide) (fun hb10 => ?_) (fun hb10 => ?_)
  · exact absurd hb10 (nI_nle (by omega) (by omega)) --stop
  · refine sp_iload_n X (pc := 13) (x := nI (a + max 1 b)) dJ8_newLength_cabcc_13 rfl rfl ?_
    refine sp_ldc X (pc := 14) (v := 2147483639) ki_ASup_200 dJ8_newLength_cabcc_14 ?_
    refine sp_icmp_gt X (pc := 16) (tgt := 21) dJ8_newLength_cabcc_16 (by decide) (fun hb16 => ?_) (fun hb16 => ?_)
    · exact absurd hb16 (by rw [show (2147483639 : Int32) = nI 2147483639 by decide +kernel]; exact nI_nlt (by omega) (by omega)) --stop
    · refine sp_iload_n X (pc := 19) (x := nI (a + max 1 b)) dJ8_newLength_cabcc_19 rfl rfl ?_
      refine sp_ireturn X (pc := 20) dJ8_newLength_cabcc_20 rfl ⟨_, rfl, ?_⟩
      first | exact ⟨rfl, rfl⟩ | rfl | (refine ⟨?_, rfl⟩; first | (rw [if_pos (by assumption)]; done) | (rw [if_neg (by assumption)]; done) | (split <;> simp_all; done))
set_option maxRecDepth 20000 in
theorem c_Arrays_copyOf2 (l : Launch) (G : sp_G) (m : sp_M) {ed c : Nat} (hed : m.ty ed = 23) (hc : c ≤ 200000) (hlc : m.ln ed ≤ c) (hel : ∀ j, j < m.ln ed → ∀ y, m.aR ed j = some y → sp_ob m y) : sp_C l G M_Arrays_copyOf2 1 c [.ref ed, .int (nI c), .ref G.mi] m (sp_oR fun v m' => v = some m.nx ∧ m' = (m.newA 23 c).wR m.nx (fun j => if j < m.ln ed then m.aR ed j else none)) := by
  refine sp_enterF (lv0 := [(0, false, va_rf (some ed)), (1, false, .int (nI c)), (2, false, va_rf (some G.mi))]) "java/util/Arrays" false rfl (by decide +kernel) (fun h => by cases h) (Nat.le_of_ble_eq_true rfl) rfl ?_
  intro w X
  refine sp_fresh X (fun hwf hbs => ?_)
  have hne : ed ≠ m.nx := by have := hwf ed (by omega); omega
  refine sp_aload_n X (pc := 0) (r := some G.mi) dJ7_copyOf_6403c_0 rfl rfl ?_
  refine sp_ldcM X (pc := 1) cl_Arrays_110 dJ7_copyOf_6403c_1 ?_
  refine sp_acmp_ne X (pc := 3) (tgt := 13) dJ7_copyOf_6403c_3 (by decide) (fun hb3 => ?_) (fun hb3 => ?_)
  · exact absurd rfl hb3 --stop
  · refine sp_iload_n X (pc := 6) (x := nI c) dJ7_copyOf_6403c_6 rfl rfl ?_
    refine sp_anewarray X (pc := 7) (N := c) cl_Arrays_2 (nI_pos (by omega)) (nI_clamp (by omega)) (by omega) (Nat.le_refl _) (Nat.le_refl _) dJ7_copyOf_6403c_7 ?_
    refine sp_goto X (pc := 10) (tgt := 24) dJ7_copyOf_6403c_10 (by decide) ?_
    refine sp_astore_n X (pc := 24) (lv' := [(3, false, va_rf (some m.nx)), (0, false, va_rf (some ed)), (1, false, .int (nI c)), (2, false, va_rf (some G.mi))]) dJ7_copyOf_6403c_24 rfl (by decide) rfl ?_
    refine sp_aload_n X (pc := 25) (r := some ed) dJ7_copyOf_6403c_25 rfl rfl ?_
    refine sp_iconst X (pc := 26) (v := 0) dJ7_copyOf_6403c_26 (by decide) ?_
    refine sp_aload_n X (pc := 27) (r := some m.nx) dJ7_copyOf_6403c_27 rfl rfl ?_
    refine sp_iconst X (pc := 28) (v := 0) dJ7_copyOf_6403c_28 (by decide) ?_
    refine sp_aload_n X (pc := 29) (r := some ed) dJ7_copyOf_6403c_29 rfl rfl ?_
    refine sp_arraylength X (pc := 30) (a := ed) rfl (by right; right; right; left; rw [sp_newA_ty, if_neg hne]; exact hed) dJ7_copyOf_6403c_30 ?_
    rw [show (Int32.ofNat ((m.newA 23 c).ln ed)) = nI (m.ln ed) from (by rw [sp_newA_ln, if_neg hne]; rfl)]
    refine sp_iload_n X (pc := 31) (x := nI c) dJ7_copyOf_6403c_31 rfl rfl ?_
    refine sp_callS X (pc := 32) (mc := 0) (ms := 0) (As := [.int (nI (m.ln ed)), .int (nI c)]) (rest := [.int 0, va_rf (some m.nx), .int 0, va_rf (some ed)]) (c_Math_min l G _) ok_Math_min lk_Arrays_304 rfl rfl (by simp [sp_cat_rf, sp_cat_i, sp_cat_l]) (Nat.le_of_ble_eq_true rfl) (Nat.le_of_ble_eq_true rfl) (Nat.zero_le _) (Nat.zero_le _) dJ7_copyOf_6403c_32 (sp_kI fun v32 m32 hp32 => ?_)
    obtain ⟨hp32v, hp32⟩ := hp32; replace hp32 := (hp32).symm; subst hp32; replace hp32v := (hp32v).symm; subst hp32v
    rw [if_neg (nI_nlt (by omega) (by omega))]
    refine sp_acopy X (pc := 35) (a0 := ed) (a := m.nx) rfl rfl (by rw [sp_newA_ty, if_neg hne]; exact hed) (by rw [sp_newA_ty, if_pos rfl]) (Ne.symm hne) (by decide) (by decide) (nI_pos (by omega)) (by rw [nI_clamp (by omega), sp_newA_ln, if_neg hne]; show 0 + _ ≤ _; omega) (by rw [nI_clamp (by omega), sp_newA_ln, if_pos rfl]; show 0 + _ ≤ _; omega) ?_ (Nat.le_of_ble_eq_true rfl) (Nat.le_of_ble_eq_true rfl) dJ7_copyOf_6403c_35 ?_
    · intro i hi y hy
      rw [nI_clamp (by omega)] at hi
      rw [sp_newA_aR, if_neg hne] at hy
      obtain ⟨c9, q1, q2, q3⟩ := hel i hi y (by rw [show (0 : Int32).toNatClampNeg + i = i by show 0 + i = i; omega] at hy; exact hy)
      refine ⟨c9, ?_, q2, q3⟩
      rw [sp_newA_ty, if_neg]
      · exact q1
      · have := hwf y (by omega)
        omega
    generalize hmz : (sp_M.wR (m.newA 23 c) m.nx _) = mz
    refine sp_aload_n X (pc := 38) (r := some m.nx) dJ7_copyOf_6403c_38 rfl rfl ?_
    refine sp_areturn X (pc := 39) (by first | exact Or.inl ⟨_, rfl⟩ | exact Or.inr ⟨_, rfl⟩) dJ7_copyOf_6403c_39 ⟨_, rfl, ?_⟩
    refine ⟨rfl, ?_⟩
    rw [← hmz]
    congr 1
    funext j
    rw [nI_clamp (by omega)]
    show (if (0 ≤ j ∧ j < 0 + m.ln ed) then (m.newA 23 c).aR ed (0 + (j - 0)) else (m.newA 23 c).aR m.nx j) = _
    rw [sp_newA_aR, sp_newA_aR, if_neg hne, if_pos rfl]
    by_cases hj : j < m.ln ed
    · rw [if_pos ⟨by omega, by omega⟩, if_pos hj, show 0 + (j - 0) = j by omega]
    · rw [if_neg (by omega), if_neg hj]
set_option maxRecDepth 20000 in
theorem c_Arrays_copyOf1 (l : Launch) (G : sp_G) (m : sp_M) {ed c : Nat} (hed : m.ty ed = 23) (hc : c ≤ 200000) (hlc : m.ln ed ≤ c) (hel : ∀ j, j < m.ln ed → ∀ y, m.aR ed j = some y → sp_ob m y) : sp_C l G M_Arrays_copyOf1 1 c [.ref ed, .int (nI c)] m (sp_oR fun v m' => v = some m.nx ∧ m' = (m.newA 23 c).wR m.nx (fun j => if j < m.ln ed then m.aR ed j else none)) := by
  refine sp_enterF (lv0 := [(0, false, va_rf (some ed)), (1, false, .int (nI c))]) "java/util/Arrays" false rfl (by decide +kernel) (fun h => by cases h) (Nat.le_of_ble_eq_true rfl) rfl ?_
  intro w X
  refine sp_aload_n X (pc := 0) (r := some ed) dJ7_copyOf_1904c_0 rfl rfl ?_
  refine sp_iload_n X (pc := 1) (x := nI c) dJ7_copyOf_1904c_1 rfl rfl ?_
  refine sp_aload_n X (pc := 2) (r := some ed) dJ7_copyOf_1904c_2 rfl rfl ?_
  refine sp_getC X (pc := 3) rfl hed (Nat.le_of_ble_eq_true rfl) (by simp [sp_cat_rf, sp_cat_i]) dJ7_copyOf_1904c_3 ?_
  refine sp_callS X (pc := 6) (mc := 1) (ms := c) (As := [va_rf (some ed), .int (nI c), va_rf (some G.mi)]) (rest := []) (c_Arrays_copyOf2 l G _ hed hc hlc hel) ok_Arrays_copyOf2 lk_Arrays_300 rfl rfl (Nat.zero_le _) (Nat.le_of_ble_eq_true rfl) (Nat.le_of_ble_eq_true rfl) (Nat.le_refl _) (Nat.le_refl _) dJ7_copyOf_1904c_6 (sp_kR fun v6 m6 hp6 => ?_)
  refine sp_areturn X (pc := 9) (by first | exact Or.inl ⟨_, rfl⟩ | exact Or.inr ⟨_, rfl⟩) dJ7_copyOf_1904c_9 ⟨_, rfl, ?_⟩
  exact hp6
