
/-- memories with the same parts are the same -/
theorem sp_M_ext {m m' : sp_M} (h1 : m.nx = m'.nx) (h2 : m.ty = m'.ty) (h3 : m.ln = m'.ln) (h4 : m.fI = m'.fI) (h5 : m.fL = m'.fL) (h6 : m.fR = m'.fR) (h7 : m.aI = m'.aI) (h8 : m.aL = m'.aL) (h9 : m.aR = m'.aR) : m = m' := by
  obtain ⟨a1, a2, a3, a4, a5, a6, a7, a8, a9⟩ := m
  obtain ⟨b1, b2, b3, b4, b5, b6, b7, b8, b9⟩ := m'
  simp only [sp_M.nx, sp_M.ty, sp_M.ln, sp_M.fI, sp_M.fL, sp_M.fR, sp_M.aI, sp_M.aL, sp_M.aR] at h1 h2 h3 h4 h5 h6 h7 h8 h9
  subst h1 h2 h3 h4 h5 h6 h7 h8 h9
  rfl
theorem sp_wR_none (m : sp_M) (c : Nat) (f : Nat → Option Nat) (hf : ∀ j, f j = none) : (m.newA 23 c).wR m.nx f = m.newA 23 c := by
  refine sp_M_ext rfl rfl rfl rfl rfl rfl rfl rfl ?_
  funext b j
  rw [sp_wR_aR, sp_newA_aR, hf]
  split <;> rfl
theorem sp_wR_sR (m : sp_M) (a i : Nat) (f : Nat → Option Nat) (v : Option Nat) : (m.wR a f).sR a i v = m.wR a (fun j => if j = i then v else f j) := by
  refine sp_M_ext rfl rfl rfl rfl rfl rfl rfl rfl ?_
  funext b j
  rw [sp_sR_aR, sp_wR_aR, sp_wR_aR]
  by_cases hb : b = a
  · subst hb
    by_cases hj : j = i
    · simp [hj]
    · simp [hj]
  · simp [hb]
theorem sp_wR_id (m : sp_M) (a : Nat) (f : Nat → Option Nat) (hf : ∀ j, f j = m.aR a j) : m.wR a f = m := by
  refine sp_M_ext rfl rfl rfl rfl rfl rfl rfl rfl ?_
  funext b j
  rw [sp_wR_aR]
  split
  · rename_i h
    rw [h, hf]
  · rfl
set_option maxRecDepth 20000 in
theorem c_List_grow2 (l : Launch) (G : sp_G) (m : sp_M) {o ed s : Nat} (hG : sp_GS G) (h : sp_li G m o ed s) (hs : s = m.ln ed) (hs6 : s ≤ 60000) (hel : ∀ j, j < m.ln ed → ∀ y, m.aR ed j = some y → sp_ob m y) : sp_C l G M_List_grow2 1 (sp_cap s) [.ref o, .int (nI (s + 1))] m (sp_oR fun v m' => v = some m.nx ∧ m' = ((m.newA 23 (sp_cap s)).wR m.nx (fun j => if j < s then m.aR ed j else none)).pR 1 o (some m.nx)) := by
  refine sp_enter (lv0 := [(0, false, va_rf (some o)), (1, false, .int (nI (s + 1)))]) "java/util/ArrayList" false rfl (by decide) (fun h => by cases h) (Nat.le_of_ble_eq_true rfl) rfl ?_
  intro w X
  refine sp_fresh X (fun hwf hbs => ?_)
  obtain ⟨ho, he, hsz, hsl, hln, hk⟩ := h
  have hco : 20 ≤ m.ty ed := by omega
  have hne : ed ≠ m.nx := by have := hwf ed (by omega); omega
  have hon : o ≠ m.nx := by have := hwf o (by omega); omega
  have hcap : sp_cap s ≤ 200000 ∧ s ≤ sp_cap s ∧ 1 ≤ sp_cap s := by
    unfold sp_cap
    split
    · omega
    · have : s / 2 ≤ s := Nat.div_le_self s 2
      omega
  refine sp_aload_n X (pc := 0) (r := some o) dJx4a65c_grow_92f84_0 rfl rfl ?_
  refine sp_getfield X (pc := 1) (c := 0) (i := 1) (t := 2) (a := o) (v := va_rf (some ed)) rfl (by first | assumption | omega) (by decide) rfl (congrArg va_rf he) fl_List_9 dJx4a65c_grow_92f84_1 ?_
  refine sp_arraylength X (pc := 4) (a := ed) rfl (by omega) dJx4a65c_grow_92f84_4 ?_
  rw [show (Int32.ofNat (m.ln ed)) = nI s from (by rw [← hs]; rfl)]
  refine sp_istore_n X (pc := 5) (lv' := [(2, false, .int (nI s)), (0, false, va_rf (some o)), (1, false, .int (nI (s + 1)))]) dJx4a65c_grow_92f84_5 rfl (by decide) rfl ?_
  refine sp_iload_n X (pc := 6) (x := nI s) dJx4a65c_grow_92f84_6 rfl rfl ?_
  refine sp_if_gt X (pc := 7) (tgt := 20) dJx4a65c_grow_92f84_7 (by decide) (fun hb7 => ?_) (fun hb7 => ?_)
  · have hpos : 0 < s := by
      rcases Nat.eq_zero_or_pos s with h0 | h0
      · rw [h0] at hb7
        exact absurd hb7 (by decide)
      · exact h0
    refine sp_iload_n X (pc := 20) (x := nI s) dJx4a65c_grow_92f84_20 rfl rfl ?_
    refine sp_iload_n X (pc := 21) (x := nI (s + 1)) dJx4a65c_grow_92f84_21 rfl rfl ?_
    refine sp_iload_n X (pc := 22) (x := nI s) dJx4a65c_grow_92f84_22 rfl rfl ?_
    refine sp_isub X (pc := 23) dJx4a65c_grow_92f84_23 ?_
    rw [show ((nI (s + 1)) - (nI s)) = nI 1 from (by rw [pk_sub (by omega)]; congr 1; omega)]
    refine sp_iload_n X (pc := 24) (x := nI s) dJx4a65c_grow_92f84_24 rfl rfl ?_
    refine sp_iconst X (pc := 25) (v := 1) dJx4a65c_grow_92f84_25 (by decide) ?_
    refine sp_ishr X (pc := 26) dJx4a65c_grow_92f84_26 ?_
    rw [show ((nI s) >>> (1 &&& 31)) = nI (s / 2) from (by rw [pk_shrN (by omega) _ 1 (by decide)])]
    refine sp_callS X (pc := 27) (mc := 0) (ms := 0) (As := [.int (nI s), .int (nI 1), .int (nI (s / 2))]) (rest := []) (c_ASup_newLength l G _ (by have : s / 2 ≤ s := Nat.div_le_self s 2; omega)) ok_ASup_newLength lk_List_73 rfl rfl (Nat.zero_le _) (Nat.le_of_ble_eq_true rfl) (Nat.le_of_ble_eq_true rfl) (Nat.zero_le _) (Nat.zero_le _) dJx4a65c_grow_92f84_27 (sp_kI fun v27 m27 hp27 => ?_)
    obtain ⟨hp27v, hp27⟩ := hp27; replace hp27 := (hp27).symm; subst hp27; replace hp27v := (hp27v).symm; subst hp27v
    rw [show s + max 1 (s / 2) = sp_cap s by unfold sp_cap; rw [if_neg (by omega)]]
    refine sp_istore_n X (pc := 30) (lv' := [(3, false, .int (nI (sp_cap s))), (2, false, .int (nI s)), (0, false, va_rf (some o)), (1, false, .int (nI (s + 1)))]) dJx4a65c_grow_92f84_30 rfl (by decide) rfl ?_
    refine sp_aload_n X (pc := 31) (r := some o) dJx4a65c_grow_92f84_31 rfl rfl ?_
    refine sp_aload_n X (pc := 32) (r := some o) dJx4a65c_grow_92f84_32 rfl rfl ?_
    refine sp_getfield X (pc := 33) (c := 0) (i := 1) (t := 2) (a := o) (v := va_rf (some ed)) rfl (by first | assumption | omega) (by decide) rfl (congrArg va_rf he) fl_List_9 dJx4a65c_grow_92f84_33 ?_
    refine sp_iload_n X (pc := 36) (x := nI (sp_cap s)) dJx4a65c_grow_92f84_36 rfl rfl ?_
    refine sp_callS X (pc := 37) (mc := 1) (ms := sp_cap s) (As := [va_rf (some ed), .int (nI (sp_cap s))]) (rest := [va_rf (some o)]) (c_Arrays_copyOf1 l G _ (ed := ed) (c := sp_cap s) (by omega) (by omega) (by omega) hel) ok_Arrays_copyOf1 lk_List_66 rfl rfl (by simp [sp_cat_rf, sp_cat_i, sp_cat_l]) (Nat.le_of_ble_eq_true rfl) (Nat.le_of_ble_eq_true rfl) (Nat.le_refl _) (Nat.le_refl _) dJx4a65c_grow_92f84_37 (sp_kR fun v37 m37 hp37 => ?_)
    obtain ⟨hp37v, hp37⟩ := hp37; subst hp37v; subst hp37
    rw [← hs]
    refine sp_dup_x1 X (pc := 40) dJx4a65c_grow_92f84_40 (sp_cat_rf _) (sp_cat_rf _) ?_
    refine sp_putR X (pc := 41) (c := 0) (i := 1) (q := 1) (a := o) rfl (by show (m.newA 23 (sp_cap s)).ty o = _; rw [sp_newA_ty, if_neg hon]; exact ho) (by decide) rfl rfl (Or.inl rfl)  fl_List_9 dJx4a65c_grow_92f84_41 ?_
    refine sp_areturn X (pc := 44) (by first | exact Or.inl ⟨_, rfl⟩ | exact Or.inr ⟨_, rfl⟩) dJx4a65c_grow_92f84_44 ⟨_, rfl, ?_⟩
    exact ⟨rfl, rfl⟩
  · have hz : s = 0 := by
      rcases Nat.eq_zero_or_pos s with h0 | h0
      · exact h0
      · exact absurd (show (0 : Int32) < nI s from nI_lt h0 (by omega)) hb7
    refine sp_aload_n X (pc := 10) (r := some o) dJx4a65c_grow_92f84_10 rfl rfl ?_
    refine sp_getfield X (pc := 11) (c := 0) (i := 1) (t := 2) (a := o) (v := va_rf (some ed)) rfl (by first | assumption | omega) (by decide) rfl (congrArg va_rf he) fl_List_9 dJx4a65c_grow_92f84_11 ?_
    refine sp_getstatic X (pc := 14) (v := va_rf (some (G.sk 3))) hG.1 gs_List_39 dJx4a65c_grow_92f84_14 ?_
    refine sp_acmp_eq X (pc := 17) (tgt := 45) dJx4a65c_grow_92f84_17 (by decide) (fun hb17 => ?_) (fun hb17 => ?_)
    · have hcase : s = 0 := hz
      refine sp_aload_n X (pc := 45) (r := some o) dJx4a65c_grow_92f84_45 rfl rfl ?_
      refine sp_bipush X (pc := 46) (v := 10) dJx4a65c_grow_92f84_46 (by decide) ?_
      refine sp_iload_n X (pc := 48) (x := nI (s + 1)) dJx4a65c_grow_92f84_48 rfl rfl ?_
      refine sp_callS X (pc := 49) (mc := 0) (ms := 0) (As := [.int 10, .int (nI (s + 1))]) (rest := [va_rf (some o)]) (c_Math_max l G _) ok_Math_max lk_List_79 rfl rfl (by simp [sp_cat_rf, sp_cat_i, sp_cat_l]) (Nat.le_of_ble_eq_true rfl) (Nat.le_of_ble_eq_true rfl) (Nat.zero_le _) (Nat.zero_le _) dJx4a65c_grow_92f84_49 (sp_kI fun v49 m49 hp49 => ?_)
      obtain ⟨hp49v, hp49⟩ := hp49; replace hp49 := (hp49).symm; subst hp49; replace hp49v := (hp49v).symm; subst hp49v
      rw [show (if (10 : Int32) < nI (s + 1) then nI (s + 1) else 10) = nI 10 by rw [hcase]; decide +kernel]
      refine sp_anewarray X (pc := 52) (N := sp_cap s) cl_List_7 (by decide +kernel) (by rw [hcase]; decide +kernel) (by omega) (Nat.le_refl _) (Nat.le_refl _) dJx4a65c_grow_92f84_52 ?_
      refine sp_dup_x1 X (pc := 55) dJx4a65c_grow_92f84_55 (sp_cat_rf _) (sp_cat_rf _) ?_
      refine sp_putR X (pc := 56) (c := 0) (i := 1) (q := 1) (a := o) rfl (by rw [sp_newA_ty, if_neg hon]; exact ho) (by decide) rfl rfl (Or.inl rfl)  fl_List_9 dJx4a65c_grow_92f84_56 ?_
      refine sp_areturn X (pc := 59) (by first | exact Or.inl ⟨_, rfl⟩ | exact Or.inr ⟨_, rfl⟩) dJx4a65c_grow_92f84_59 ⟨_, rfl, ?_⟩
      refine ⟨rfl, ?_⟩
      rw [sp_wR_none]
      intro j
      rw [if_neg (by omega)]
    · exfalso
      rcases hk with hk | hk
      · omega
      · exact hb17 (by rw [hk.2.1]) --stop
set_option maxRecDepth 20000 in
theorem c_List_grow1 (l : Launch) (G : sp_G) (m : sp_M) {o ed s : Nat} (hG : sp_GS G) (h : sp_li G m o ed s) (hs : s = m.ln ed) (hs6 : s ≤ 60000) (hel : ∀ j, j < m.ln ed → ∀ y, m.aR ed j = some y → sp_ob m y) : sp_C l G M_List_grow1 1 (sp_cap s) [.ref o] m (sp_oR fun v m' => v = some m.nx ∧ m' = ((m.newA 23 (sp_cap s)).wR m.nx (fun j => if j < s then m.aR ed j else none)).pR 1 o (some m.nx)) := by
  refine sp_enter (lv0 := [(0, false, va_rf (some o))]) "java/util/ArrayList" false rfl (by decide) (fun h => by cases h) (Nat.le_of_ble_eq_true rfl) rfl ?_
  intro w X
  have ho := h.1
  have hsz := h.2.2.1
  refine sp_aload_n X (pc := 0) (r := some o) dJx4a65c_grow_d5877_0 rfl rfl ?_
  refine sp_aload_n X (pc := 1) (r := some o) dJx4a65c_grow_d5877_1 rfl rfl ?_
  refine sp_getfield X (pc := 2) (c := 0) (i := 2) (t := 0) (a := o) (v := .int (m.fI 2 o)) rfl (by first | assumption | omega) (by decide) rfl rfl fl_List_48 dJx4a65c_grow_d5877_2 ?_
  refine sp_iconst X (pc := 5) (v := 1) dJx4a65c_grow_d5877_5 (by decide) ?_
  refine sp_iadd X (pc := 6) dJx4a65c_grow_d5877_6 ?_
  rw [show ((m.fI 2 o) + 1) = nI (s + 1) from (by rw [hsz]; exact nI_1 s)]
  refine sp_callV X (pc := 7) (mc := 1) (ms := sp_cap s) (b := o) (c := 0) (r := some o) (As := [.int (nI (s + 1))]) (rest := []) (c_List_grow2 l G _ hG h hs hs6 hel) ok_List_grow2 rfl (by first | assumption | omega) (by decide) rfl lk_List_69 rfl rfl (Nat.zero_le _) (Nat.le_of_ble_eq_true rfl) (Nat.le_of_ble_eq_true rfl) (Nat.le_refl _) (Nat.le_refl _) dJx4a65c_grow_d5877_7 (sp_kR fun v7 m7 hp7 => ?_)
  refine sp_areturn X (pc := 10) (by first | exact Or.inl ⟨_, rfl⟩ | exact Or.inr ⟨_, rfl⟩) dJx4a65c_grow_d5877_10 ⟨_, rfl, ?_⟩
  exact hp7
set_option maxRecDepth 20000 in
theorem c_List_add2_n (l : Launch) (G : sp_G) (m : sp_M) {o ed s b : Nat} (ho : m.ty o = 1) (hed : m.ty ed = 23) (hs : s < m.ln ed) (hln : m.ln ed ≤ 100000) (hb : sp_ob m b) : sp_C l G M_List_add2 0 0 [.ref o, .ref b, .ref ed, .int (nI s)] m (sp_oV fun m' => m' = (m.sR ed s (some b)).pI 2 o (nI (s + 1))) := by
  refine sp_enter (lv0 := [(0, false, va_rf (some o)), (1, false, va_rf (some b)), (2, false, va_rf (some ed)), (3, false, .int (nI s))]) "java/util/ArrayList" false rfl (by decide) (fun h => by cases h) (Nat.le_of_ble_eq_true rfl) rfl ?_
  intro w X
  refine sp_iload_n X (pc := 0) (x := nI s) dJx4a65c_add_72be8_0 rfl rfl ?_
  refine sp_aload_n X (pc := 1) (r := some ed) dJx4a65c_add_72be8_1 rfl rfl ?_
  refine sp_arraylength X (pc := 2) (a := ed) rfl (by omega) dJx4a65c_add_72be8_2 ?_
  rw [show (Int32.ofNat (m.ln ed)) = nI (m.ln ed) from rfl]
  refine sp_icmp_ne X (pc := 3) (tgt := 11) dJx4a65c_add_72be8_3 (by decide) (fun hb3 => ?_) (fun hb3 => ?_)
  · refine sp_aload_n X (pc := 11) (r := some ed) dJx4a65c_add_72be8_11 rfl rfl ?_
    refine sp_iload_n X (pc := 12) (x := nI s) dJx4a65c_add_72be8_12 rfl rfl ?_
    refine sp_aload_n X (pc := 13) (r := some b) dJx4a65c_add_72be8_13 rfl rfl ?_
    refine sp_aastore X (pc := 14) (a := ed) rfl (by first | assumption | omega) (vp_in_nI hs (by omega)) (fun z hz => by cases hz; exact hb) dJx4a65c_add_72be8_14 ?_
    rw [show (nI s).toNatClampNeg = s from nI_clamp (by omega)]
    refine sp_aload_n X (pc := 15) (r := some o) dJx4a65c_add_72be8_15 rfl rfl ?_
    refine sp_iload_n X (pc := 16) (x := nI s) dJx4a65c_add_72be8_16 rfl rfl ?_
    refine sp_iconst X (pc := 17) (v := 1) dJx4a65c_add_72be8_17 (by decide) ?_
    refine sp_iadd X (pc := 18) dJx4a65c_add_72be8_18 ?_
    rw [show ((nI s) + 1) = nI (s + 1) from nI_1 s]
    refine sp_putI X (pc := 19) (c := 0) (i := 2) (q := 2) (a := o) rfl (by first | assumption | omega) (by decide) rfl rfl (Or.inl rfl) ⟨rfl, rfl⟩ fl_List_48 dJx4a65c_add_72be8_19 ?_
    refine sp_return X (pc := 22) dJx4a65c_add_72be8_22 ⟨rfl, ?_⟩
    first | exact ⟨rfl, rfl⟩ | rfl | (refine ⟨?_, rfl⟩; first | (rw [if_pos (by assumption)]; done) | (rw [if_neg (by assumption)]; done) | (split <;> simp_all; done))
  · exact absurd ((nI_eq (by omega) (by omega)).mp hb3) (by omega) --stop
set_option maxRecDepth 20000 in
theorem c_List_add2_g (l : Launch) (G : sp_G) (m : sp_M) {o ed s b : Nat} (hG : sp_GS G) (h : sp_li G m o ed s) (hs : s = m.ln ed) (hs6 : s ≤ 60000) (hel : ∀ j, j < m.ln ed → ∀ y, m.aR ed j = some y → sp_ob m y) (hb : sp_ob m b) : sp_C l G M_List_add2 1 (sp_cap s) [.ref o, .ref b, .ref ed, .int (nI s)] m (sp_oV fun m' => m' = ((((m.newA 23 (sp_cap s)).wR m.nx (fun j => if j < s then m.aR ed j else none)).pR 1 o (some m.nx)).sR m.nx s (some b)).pI 2 o (nI (s + 1))) := by
  refine sp_enter (lv0 := [(0, false, va_rf (some o)), (1, false, va_rf (some b)), (2, false, va_rf (some ed)), (3, false, .int (nI s))]) "java/util/ArrayList" false rfl (by decide) (fun h => by cases h) (Nat.le_of_ble_eq_true rfl) rfl ?_
  intro w X
  refine sp_fresh X (fun hwf hbs => ?_)
  have hk := h.2.2.2.2.2
  have ho := h.1
  have hon : o ≠ m.nx := by have := hwf o (by omega); omega
  have hcap : s < sp_cap s ∧ sp_cap s ≤ 200000 := by
    unfold sp_cap
    split
    · omega
    · have : s / 2 ≤ s := Nat.div_le_self s 2
      omega
  refine sp_iload_n X (pc := 0) (x := nI s) dJx4a65c_add_72be8_0 rfl rfl ?_
  refine sp_aload_n X (pc := 1) (r := some ed) dJx4a65c_add_72be8_1 rfl rfl ?_
  refine sp_arraylength X (pc := 2) (a := ed) rfl (by omega) dJx4a65c_add_72be8_2 ?_
  rw [show (Int32.ofNat (m.ln ed)) = nI s from (by rw [← hs]; rfl)]
  refine sp_icmp_ne X (pc := 3) (tgt := 11) dJx4a65c_add_72be8_3 (by decide) (fun hb3 => ?_) (fun hb3 => ?_)
  · exact absurd rfl hb3 --stop
  · refine sp_aload_n X (pc := 6) (r := some o) dJx4a65c_add_72be8_6 rfl rfl ?_
    refine sp_callV X (pc := 7) (mc := 1) (ms := sp_cap s) (b := o) (c := 0) (r := some o) (As := []) (rest := []) (c_List_grow1 l G _ hG h hs hs6 hel) ok_List_grow1 rfl (by first | assumption | omega) (by decide) rfl lk_List_129 rfl rfl (Nat.zero_le _) (Nat.le_of_ble_eq_true rfl) (Nat.le_of_ble_eq_true rfl) (Nat.le_refl _) (Nat.le_refl _) dJx4a65c_add_72be8_7 (sp_kR fun v7 m7 hp7 => ?_)
    obtain ⟨hp7v, hp7⟩ := hp7; subst hp7v; subst hp7
    refine sp_astore_n X (pc := 10) (lv' := [(2, false, va_rf (some m.nx)), (0, false, va_rf (some o)), (1, false, va_rf (some b)), (3, false, .int (nI s))]) dJx4a65c_add_72be8_10 rfl (by decide) rfl ?_
    refine sp_aload_n X (pc := 11) (r := some m.nx) dJx4a65c_add_72be8_11 rfl rfl ?_
    refine sp_iload_n X (pc := 12) (x := nI s) dJx4a65c_add_72be8_12 rfl rfl ?_
    refine sp_aload_n X (pc := 13) (r := some b) dJx4a65c_add_72be8_13 rfl rfl ?_
    refine sp_aastore X (pc := 14) (a := m.nx) rfl (by show (m.newA 23 (sp_cap s)).ty m.nx = _; rw [sp_newA_ty, if_pos rfl]) (by show vp_in _ ((m.newA 23 (sp_cap s)).ln m.nx); rw [sp_newA_ln, if_pos rfl]; exact vp_in_nI hcap.1 (by omega)) (fun z hz => by
  cases hz
  obtain ⟨c9, q1, q2, q3⟩ := hb
  refine ⟨c9, ?_, q2, q3⟩
  show (m.newA 23 (sp_cap s)).ty b = _
  rw [sp_newA_ty, if_neg]
  · exact q1
  · have := hwf b (by omega)
    omega) dJx4a65c_add_72be8_14 ?_
    rw [show (nI s).toNatClampNeg = s from nI_clamp (by omega)]
    refine sp_aload_n X (pc := 15) (r := some o) dJx4a65c_add_72be8_15 rfl rfl ?_
    refine sp_iload_n X (pc := 16) (x := nI s) dJx4a65c_add_72be8_16 rfl rfl ?_
    refine sp_iconst X (pc := 17) (v := 1) dJx4a65c_add_72be8_17 (by decide) ?_
    refine sp_iadd X (pc := 18) dJx4a65c_add_72be8_18 ?_
    rw [show ((nI s) + 1) = nI (s + 1) from nI_1 s]
    refine sp_putI X (pc := 19) (c := 0) (i := 2) (q := 2) (a := o) rfl (by show (m.newA 23 (sp_cap s)).ty o = _; rw [sp_newA_ty, if_neg hon]; exact ho) (by decide) rfl rfl (Or.inl rfl) ⟨rfl, rfl⟩ fl_List_48 dJx4a65c_add_72be8_19 ?_
    refine sp_return X (pc := 22) dJx4a65c_add_72be8_22 ⟨rfl, ?_⟩
    first | exact ⟨rfl, rfl⟩ | rfl | (refine ⟨?_, rfl⟩; first | (rw [if_pos (by assumption)]; done) | (rw [if_neg (by assumption)]; done) | (split <;> simp_all; done))
