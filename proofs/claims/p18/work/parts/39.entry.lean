
theorem sp_mkE_fR (m : sp_M) (o : Nat) (kd wi : Int32) (p q : Option Nat) (sz : Int64) (k a : Nat) : (sp_mkE m o kd p q wi sz).fR k a = if k = 194 ∧ a = o then q else if k = 193 ∧ a = o then p else m.fR k a := rfl
theorem sp_mkE_fI (m : sp_M) (o : Nat) (kd wi : Int32) (p q : Option Nat) (sz : Int64) (k a : Nat) : (sp_mkE m o kd p q wi sz).fI k a = if k = 195 ∧ a = o then wi else if k = 192 ∧ a = o then kd else m.fI k a := rfl
theorem sp_mkE_fL (m : sp_M) (o : Nat) (kd wi : Int32) (p q : Option Nat) (sz : Int64) (k a : Nat) : (sp_mkE m o kd p q wi sz).fL k a = if k = 196 ∧ a = o then sz else m.fL k a := rfl
theorem sp_mkE_ty (m : sp_M) (o : Nat) (kd wi : Int32) (p q : Option Nat) (sz : Int64) : (sp_mkE m o kd p q wi sz).ty = m.ty := rfl
theorem sp_mkE_ln (m : sp_M) (o : Nat) (kd wi : Int32) (p q : Option Nat) (sz : Int64) : (sp_mkE m o kd p q wi sz).ln = m.ln := rfl
theorem sp_J.mkE {G : sp_G} {P E : Nat → Prop} {m : sp_M} {o : Nat} (hJ : sp_J G P (sp_E1 E o) m) (ho : m.ty o = 4) (kd wi : Int32) (p q : Nat) (sz : Int64) (hp : m.ty p = 8) (hpl : m.ln p ≤ 8) (hq : m.ty q = 8) : sp_J G P E (sp_mkE m o kd (some p) (some q) wi sz) := by
  have h1 := hJ.pI (k := 192) (a := o) (v := kd) (by decide)
  have h2 := h1.pR (k := 193) (a := o) (v := some p) (Or.inr (Or.inr rfl))
  have h3 := h2.pR (k := 194) (a := o) (v := some q) (Or.inr (Or.inr rfl))
  have h4 := h3.pI (k := 195) (a := o) (v := wi) (by decide)
  have h5 : sp_J G P (sp_E1 E o) (sp_mkE m o kd (some p) (some q) wi sz) := h4.pL
  clear h1 h2 h3 h4
  refine h5.drop (fun h => ?_) (fun h => ?_) (fun h => ?_) (fun h => ?_) (fun _ => ⟨p, q, ?_, ?_, ?_, ?_, ?_⟩) (fun h => ?_)
  · rw [sp_mkE_ty] at h; omega
  · rw [sp_mkE_ty] at h; omega
  · rw [sp_mkE_ty] at h; omega
  · rw [sp_mkE_ty] at h; omega
  · rw [sp_mkE_fR, if_neg (by omega), if_pos ⟨rfl, rfl⟩]
  · rw [sp_mkE_ty]; exact hp
  · rw [sp_mkE_ln]; exact hpl
  · rw [sp_mkE_fR, if_pos ⟨rfl, rfl⟩]
  · rw [sp_mkE_ty]; exact hq
  · rw [sp_mkE_ty] at h; omega
theorem sp_fx.mkE {m m1 : sp_M} {w : sp_W} (h : sp_fx m m1 w) {o : Nat} (ho : m.nx ≤ o) (kd wi : Int32) (p q : Option Nat) (sz : Int64) : sp_fx m (sp_mkE m1 o kd p q wi sz) w :=
  ((((h.pI (Or.inr ho)).pR (Or.inr ho)).pR (Or.inr ho)).pI (Or.inr ho)).pL (Or.inr ho)
set_option maxHeartbeats 1000000 in
set_option maxRecDepth 20000 in
theorem c_SP_entry (l : Launch) (G : sp_G) (m : sp_M) {P : Nat → Prop} {A : Nat → Nat} (hG : sp_GS G) (hI : sp_I G P A m) {kd pa wi : Int32} {sz : Int64} (hb : sp_bn G m A) {e2 s2 e3 s3 e4 s4 : Nat} (li2 : sp_li G m (A 2) e2 s2) (li3 : sp_li G m (A 3) e3 s3) (li4 : sp_li G m (A 4) e4 s4) : sp_C l G M_SP_entry 2 500 [.ref (A 17), .int kd, .int pa, .int wi, .long sz] m (sp_oI fun v m' => (¬ pu_ent kd pa wi sz s2 s3 ∧ v = -7 ∧ m' = m) ∨ (pu_ent kd pa wi sz s2 s3 ∧ ¬ s4 < 100 ∧ v = -6 ∧ m' = m) ∨ (pu_ent kd pa wi sz s2 s3 ∧ s4 < 100 ∧ v = nI s4 ∧ sp_I G P A m' ∧ sp_bn G m' A ∧ sp_F m m' A sp_T4 ∧ ∃ e4' ea p o, sp_li G m' (A 4) e4' (s4 + 1) ∧ (∀ j, j < s4 → m'.aR e4' j = m.aR e4 j) ∧ m'.aR e4' s4 = some ea ∧ (m'.ty ea = 4 ∧ m'.fI 192 ea = kd ∧ m'.fR 193 ea = some p ∧ m'.fR 194 ea = some o ∧ m'.fI 195 ea = wi ∧ m'.fL 196 ea = sz) ∧ (∃ j, j < s2 ∧ pa = nI j ∧ m.aR e2 j = some p) ∧ ((kd = 2 ∧ ∃ j, j < s3 ∧ wi = nI j ∧ m.aR e3 j = some o) ∨ (kd = 3 ∧ ∃ j, j < s2 ∧ wi = nI j ∧ m.aR e2 j = some o) ∨ (¬ kd = 2 ∧ ¬ kd = 3 ∧ o = p)))) := by
  refine sp_enter (lv0 := [(0, false, va_rf (some (A 17))), (1, false, .int kd), (2, false, .int pa), (3, false, .int wi), (4, true, .long sz)]) "SafePaths" false rfl (by decide) (fun h => by cases h) (Nat.le_of_ble_eq_true rfl) rfl ?_
  intro w X
  have hS := hI.S
  have t2 := hS.k 2 1 (by decide)
  have t4 := hS.k 4 1 (by decide)
  have t17 := hS.k 17 13 (by decide)
  have el2 : ∀ j, j < s2 → ∃ b, m.aR e2 j = some b ∧ m.ty b = 8 := fun j hj => by
    obtain ⟨b, q1, q2⟩ := (hI.J.el li2 (sp_e0 _)).2 j hj
    rw [(hS.2.2.1 2 (by unfold sp_ix; omega)).1] at q2
    exact ⟨b, q1, q2.1⟩
  have el3 : ∀ j, j < s3 → ∃ b, m.aR e3 j = some b ∧ m.ty b = 8 := fun j hj => by
    obtain ⟨b, q1, q2⟩ := (hI.J.el li3 (sp_e0 _)).2 j hj
    rw [(hS.2.2.1 3 (by unfold sp_ix; omega)).1] at q2
    exact ⟨b, q1, q2.1⟩
  have h29 : s2 < 2 ^ 31 := by have := li2.2.2.2.1; have := li2.2.2.2.2.1; omega
  have h39 : s3 < 2 ^ 31 := by have := li3.2.2.2.1; have := li3.2.2.2.2.1; omega
  have lo4 := hI.lo sp_ix4 li4
  have lo41 : m.ln e4 ≤ 210 := lo4.1
  have h49 : s4 < 2 ^ 31 := by have := li4.2.2.2.1; have := li4.2.2.2.2.1; omega
  have hz := hI.wf.z
  have oo : (m.newO 3).ty m.nx = 4 := by rw [sp_newO_ty, if_pos rfl]
  have cut85 : ∀ (p o : Nat), ¬ kd < 0 ∧ kd ≤ 4 → m.ty p = 8 → m.ln p ≤ 8 → m.ty o = 8 → (∃ j, j < s2 ∧ pa = nI j ∧ m.aR e2 j = some p) → ((kd = 2 ∧ ∃ j, j < s3 ∧ wi = nI j ∧ m.aR e3 j = some o) ∨ (kd = 3 ∧ ∃ j, j < s2 ∧ wi = nI j ∧ m.aR e2 j = some o) ∨ (¬ kd = 2 ∧ ¬ kd = 3 ∧ o = p)) → (kd = 0 → wi = 0 ∨ wi = 1) → (kd = 1 → ¬ sz < 0 ∧ sz ≤ 1099511627776) → w 2 500 m 85 [(0, false, va_rf (some (A 17))), (1, false, .int kd), (3, false, .int wi), (4, true, .long sz), (6, false, va_rf (some p)), (7, false, va_rf (some o))] [] := by
    intro p o hkd hp8 hpl ho8 hown hoth h0 h1
    have hpe : pu_ent kd pa wi sz s2 s3 := ⟨hkd.1, hkd.2, by obtain ⟨j, q1, q2, -⟩ := hown; exact ⟨j, q1, q2⟩, h0, h1, fun z => by
      rcases hoth with ⟨-, j, q1, q2, -⟩ | ⟨w, -⟩ | ⟨w, -⟩
      · exact ⟨j, q1, q2⟩
      · rw [z] at w; exact absurd w (by decide)
      · exact absurd z w, fun z => by
      rcases hoth with ⟨w, -⟩ | ⟨-, j, q1, q2, -⟩ | ⟨-, w, -⟩
      · rw [z] at w; exact absurd w (by decide)
      · exact ⟨j, q1, q2⟩
      · exact absurd z w⟩
    refine sp_aload_n X (pc := 85) (r := some (A 17)) dX11_entry_85 rfl rfl ?_
    refine sp_getfield X (pc := 86) (c := 12) (i := 4) (t := 2) (a := (A 17)) (v := va_rf (some (A 4))) rfl (by first | assumption | omega) (by decide) rfl (congrArg va_rf (hS.p 772 17 4 (by decide))) fl_SP_35 dX11_entry_86 ?_
    refine sp_callV X (pc := 89) (mc := 0) (ms := 0) (b := (A 4)) (c := 0) (r := (some (A 4))) (As := []) (rest := []) (c_List_size l G _ t4) ok_List_size rfl t4 (by decide) rfl lk_SP_81 rfl rfl (Nat.zero_le _) (Nat.le_of_ble_eq_true rfl) (Nat.le_of_ble_eq_true rfl) (Nat.zero_le _) (Nat.zero_le _) dX11_entry_89 (sp_kI fun v89 m89 hp89 => ?_)
    obtain ⟨hp89v, hp89⟩ := hp89; replace hp89 := (hp89).symm; subst hp89; replace hp89v := (hp89v).symm; subst hp89v
    rw [li4.2.2.1]
    refine sp_bipush X (pc := 92) (v := 100) dX11_entry_92 (by decide) ?_
    refine sp_icmp_lt X (pc := 94) (tgt := 100) dX11_entry_94 (by decide) (fun hb94 => ?_) (fun hb94 => ?_)
    · have g100 : s4 < 100 := (nI_ltI (b := 100) (by omega) (by omega)).mp hb94
      refine sp_aload_n X (pc := 100) (r := some (A 17)) dX11_entry_100 rfl rfl ?_
      refine sp_getfield X (pc := 101) (c := 12) (i := 4) (t := 2) (a := (A 17)) (v := va_rf (some (A 4))) rfl (by first | assumption | omega) (by decide) rfl (congrArg va_rf (hS.p 772 17 4 (by decide))) fl_SP_35 dX11_entry_101 ?_
      refine sp_new X (pc := 104) (c := 3) (N := 5) (by decide) rfl cl_SP_130 in_3 it_3 (by decide) (by decide) dX11_entry_104 ?_
      refine sp_dup X (pc := 107) dX11_entry_107 (sp_cat_rf _) ?_
      refine sp_iload_n X (pc := 108) (x := kd) dX11_entry_108 rfl rfl ?_
      refine sp_aload X (pc := 109) (r := some p) dX11_entry_109 rfl ?_
      refine sp_aload X (pc := 111) (r := some o) dX11_entry_111 rfl ?_
      refine sp_iload_n X (pc := 113) (x := wi) dX11_entry_113 rfl rfl ?_
      refine sp_lload X (pc := 114) (x := sz) dX11_entry_114 rfl ?_
      refine sp_callI X (pc := 116) (mc := 0) (ms := 0) (b := m.nx) (r := some m.nx) (As := [.int kd, va_rf (some p), va_rf (some o), .int wi, .long sz]) (rest := [va_rf (some m.nx), va_rf (some (A 4))]) (c_Entry_init l G _ (o := m.nx) oo) ok_Entry_init rfl rfl lk_SP_132 rfl rfl (by simp [sp_cat_rf, sp_cat_i, sp_cat_l]) (Nat.le_of_ble_eq_true rfl) (Nat.le_of_ble_eq_true rfl) (Nat.zero_le _) (Nat.zero_le _) dX11_entry_116 (sp_kV fun m116 hp116 => ?_)
      have ht1 : m116.ty m.nx = 4 := by rw [hp116]; exact oo
      have op : p ≠ m.nx := by have := hI.wf p (by omega); omega
      have oo2 : o ≠ m.nx := by have := hI.wf o (by omega); omega
      have hJ1 : sp_J G P sp_E0 m116 := by
        rw [hp116]
        exact (hI.J.newO0 hI.wf 3).mkE oo kd wi p o sz (by rw [sp_newO_ty, if_neg op]; exact hp8) hpl (by rw [sp_newO_ty, if_neg oo2]; exact ho8)
      have hfx1 : sp_fx m m116 sp_w0 := by rw [hp116]; exact ((sp_fx.refl m sp_w0).newO 3).mkE (Nat.le_refl _) kd wi _ _ sz
      have hI1 : sp_I G P A m116 := hI.w0 hJ1 (by rw [hp116]; exact hI.wf.newO 3) hfx1
      have hev : m116.fI 192 m.nx = kd ∧ m116.fR 193 m.nx = some p ∧ m116.fR 194 m.nx = some o ∧ m116.fI 195 m.nx = wi ∧ m116.fL 196 m.nx = sz := by
        rw [hp116, sp_mkE_fI, sp_mkE_fR, sp_mkE_fR, sp_mkE_fI, sp_mkE_fL, if_neg (by omega), if_pos ⟨rfl, rfl⟩, if_neg (by omega), if_pos ⟨rfl, rfl⟩, if_pos ⟨rfl, rfl⟩, if_pos ⟨rfl, rfl⟩, if_pos ⟨rfl, rfl⟩]
        exact ⟨rfl, rfl, rfl, rfl, rfl⟩
      clear hp116
      have l4 : sp_li G m116 (A 4) e4 s4 := hfx1.li hI.wf li4 (fun z => z) (fun z => z)
      have le4 : e4 < m.nx := hI.wf e4 (by have := li4.2.2.2.2.2; omega)
      have e44 : m116.aR e4 = m.aR e4 := (hfx1.2.2.2.2.2 e4 le4 (fun z => z)).2.2
      have hlo4 : m116.ln e4 ≤ 210 := (hI1.lo sp_ix4 l4).1
      have hcl := sp_cap_le (m116.ln e4)
      refine sp_callV X (pc := 119) (mc := (if s4 < m116.ln e4 then 0 else 1)) (ms := (if s4 < m116.ln e4 then 0 else sp_cap (m116.ln e4))) (b := (A 4)) (c := 0) (r := (some (A 4))) (As := [va_rf (some m.nx)]) (rest := []) (c_List_add1 l G _ (o := A 4) (ed := e4) (s := s4) (b := m.nx) hG l4 hI1.wf (by omega) (hI1.J.elob l4 (sp_e0 _)) ⟨3, ht1, by decide, ca_3⟩) ok_List_add1 rfl l4.1 (by decide) rfl lk_SP_90 rfl rfl (Nat.zero_le _) (Nat.le_of_ble_eq_true rfl) (Nat.le_of_ble_eq_true rfl) (by split <;> omega) (by split <;> omega) dX11_entry_119 (sp_kI fun v119 m119 hp119 => ?_)
      obtain ⟨hv119, had⟩ := hp119
      have I2 := hI1.add sp_ix4 l4 had (by show s4 < 100; exact g100) ⟨ht1, fun z => absurd z (by decide)⟩ (fun z => absurd z (by decide))
      have F2 : sp_F m m119 A sp_T4 := ((sp_F.refl m A sp_T4).w0 hfx1).ad hI1.J l4 had sp_ix4 rfl
      have B2 : sp_bn G m119 A := F2.bn hI hb (by unfold sp_T4; decide) (by unfold sp_T4; decide)
      have hS119 := I2.S
      have y17 := hS119.k 17 13 (by decide)
      have y4 := hS119.k 4 1 (by decide)
      obtain ⟨e4', c1, c2, c3, c4, c5, c6, c7, -⟩ := had
      have c8 : m119.ty m.nx = 4 := by
        rcases c4 with q | q
        · rw [q.2.2.2.1]; exact ht1
        · rw [q.2.2.2.1]
          unfold sp_u1
          rw [if_neg (by have := hfx1.1; have := hI1.wf m.nx (by omega); omega)]
          exact ht1
      refine sp_pop X (pc := 122) dX11_entry_122 rfl ?_
      refine sp_aload_n X (pc := 123) (r := some (A 17)) dX11_entry_123 rfl rfl ?_
      refine sp_getfield X (pc := 124) (c := 12) (i := 4) (t := 2) (a := (A 17)) (v := va_rf (some (A 4))) rfl (by first | assumption | omega) (by decide) rfl (congrArg va_rf (hS119.p 772 17 4 (by decide))) fl_SP_35 dX11_entry_124 ?_
      refine sp_callV X (pc := 127) (mc := 0) (ms := 0) (b := (A 4)) (c := 0) (r := (some (A 4))) (As := []) (rest := []) (c_List_size l G _ y4) ok_List_size rfl y4 (by decide) rfl lk_SP_81 rfl rfl (Nat.zero_le _) (Nat.le_of_ble_eq_true rfl) (Nat.le_of_ble_eq_true rfl) (Nat.zero_le _) (Nat.zero_le _) dX11_entry_127 (sp_kI fun v127 m127 hp127 => ?_)
      obtain ⟨hp127v, hp127⟩ := hp127; replace hp127 := (hp127).symm; subst hp127; replace hp127v := (hp127v).symm; subst hp127v
      rw [c1.2.2.1]
      refine sp_iconst X (pc := 130) (v := 1) dX11_entry_130 (by decide) ?_
      refine sp_isub X (pc := 131) dX11_entry_131 ?_
      rw [show ((nI (s4 + 1)) - 1) = (nI s4) from nI_pred s4]
      refine sp_ireturn X (pc := 132) dX11_entry_132 rfl ⟨_, rfl, ?_⟩
      exact Or.inr (Or.inr ⟨hpe, g100, rfl, I2, B2, F2, e4', m.nx, p, o, c1, fun j hj => by rw [c2 j hj, e44], c3, ⟨c8, by rw [c6 _ _ (by omega) (by omega)]; exact hev.1, by rw [c5 _ _ (by omega)]; exact hev.2.1, by rw [c5 _ _ (by omega)]; exact hev.2.2.1, by rw [c6 _ _ (by omega) (by omega)]; exact hev.2.2.2.1, by rw [c7]; exact hev.2.2.2.2⟩, hown, hoth⟩)
    · have g100 : ¬ s4 < 100 := fun z => hb94 (nI_lt (b := 100) z (by omega))
      refine sp_bipush X (pc := 97) (v := (-6)) dX11_entry_97 (by decide) ?_
      refine sp_ireturn X (pc := 99) dX11_entry_99 rfl ⟨_, rfl, ?_⟩
      exact Or.inr (Or.inl ⟨hpe, g100, rfl, rfl⟩)
  have cut61 : ∀ (p o : Nat), ¬ kd < 0 ∧ kd ≤ 4 → m.ty p = 8 → m.ln p ≤ 8 → m.ty o = 8 → (∃ j, j < s2 ∧ pa = nI j ∧ m.aR e2 j = some p) → ((kd = 2 ∧ ∃ j, j < s3 ∧ wi = nI j ∧ m.aR e3 j = some o) ∨ (kd = 3 ∧ ∃ j, j < s2 ∧ wi = nI j ∧ m.aR e2 j = some o) ∨ (¬ kd = 2 ∧ ¬ kd = 3 ∧ o = p)) → (kd = 0 → wi = 0 ∨ wi = 1) → w 2 500 m 61 [(0, false, va_rf (some (A 17))), (1, false, .int kd), (3, false, .int wi), (4, true, .long sz), (6, false, va_rf (some p)), (7, false, va_rf (some o))] [] := by
    intro p o hkd hp8 hpl ho8 hown hoth h0
    refine sp_iload_n X (pc := 61) (x := kd) dX11_entry_61 rfl rfl ?_
    refine sp_iconst X (pc := 62) (v := 1) dX11_entry_62 (by decide) ?_
    refine sp_icmp_ne X (pc := 63) (tgt := 85) dX11_entry_63 (by decide) (fun hb63 => ?_) (fun hb63 => ?_)
    · first
        | exact cut85 p o hkd hp8 hpl ho8 hown hoth h0 (fun z => absurd z hb63)
        | exact cut85 p o hkd hp8 hpl ho8 hown hoth h0 (fun _ => ⟨sp_lge (Int32.not_lt.mp hb70), pu_cle hb79⟩)
    · refine sp_lload X (pc := 66) (x := sz) dX11_entry_66 rfl ?_
      refine sp_lconst X (pc := 68) (v := 0) dX11_entry_68 (by decide) ?_
      refine sp_lcmp X (pc := 69) dX11_entry_69 ?_
      refine sp_if_lt X (pc := 70) (tgt := 82) dX11_entry_70 (by decide) (fun hb70 => ?_) (fun hb70 => ?_)
      · refine sp_bipush X (pc := 82) (v := (-7)) dX11_entry_82 (by decide) ?_
        refine sp_ireturn X (pc := 84) dX11_entry_84 rfl ⟨_, rfl, ?_⟩
        first | exact Or.inl ⟨fun z => (z.2.2.2.2.1 hb63).1 (sp_llt (Int32.not_le.mpr hb70)), rfl, rfl⟩ | exact Or.inl ⟨fun z => pu_cgt hb79 (z.2.2.2.2.1 hb63).2, rfl, rfl⟩
      · refine sp_lload X (pc := 73) (x := sz) dX11_entry_73 rfl ?_
        refine sp_ldc2 X (pc := 75) (v := 1099511627776) kl_SP_128 dX11_entry_75 ?_
        refine sp_lcmp X (pc := 78) dX11_entry_78 ?_
        refine sp_if_le X (pc := 79) (tgt := 85) dX11_entry_79 (by decide) (fun hb79 => ?_) (fun hb79 => ?_)
        · first
            | exact cut85 p o hkd hp8 hpl ho8 hown hoth h0 (fun z => absurd z hb63)
            | exact cut85 p o hkd hp8 hpl ho8 hown hoth h0 (fun _ => ⟨sp_lge (Int32.not_lt.mp hb70), pu_cle hb79⟩)
        · refine sp_bipush X (pc := 82) (v := (-7)) dX11_entry_82 (by decide) ?_
          refine sp_ireturn X (pc := 84) dX11_entry_84 rfl ⟨_, rfl, ?_⟩
          first | exact Or.inl ⟨fun z => (z.2.2.2.2.1 hb63).1 (sp_llt (Int32.not_le.mpr hb70)), rfl, rfl⟩ | exact Or.inl ⟨fun z => pu_cgt hb79 (z.2.2.2.2.1 hb63).2, rfl, rfl⟩
  refine sp_iload_n X (pc := 0) (x := kd) dX11_entry_0 rfl rfl ?_
  refine sp_if_lt X (pc := 1) (tgt := 9) dX11_entry_1 (by decide) (fun hb1 => ?_) (fun hb1 => ?_)
  · refine sp_bipush X (pc := 9) (v := (-7)) dX11_entry_9 (by decide) ?_
    refine sp_ireturn X (pc := 11) dX11_entry_11 rfl ⟨_, rfl, ?_⟩
    first | exact Or.inl ⟨fun z => z.1 hb1, rfl, rfl⟩ | exact Or.inl ⟨fun z => hb6 z.2.1, rfl, rfl⟩
  · refine sp_iload_n X (pc := 4) (x := kd) dX11_entry_4 rfl rfl ?_
    refine sp_iconst X (pc := 5) (v := 4) dX11_entry_5 (by decide) ?_
    refine sp_icmp_le X (pc := 6) (tgt := 12) dX11_entry_6 (by decide) (fun hb6 => ?_) (fun hb6 => ?_)
    · refine sp_aload_n X (pc := 12) (r := some (A 17)) dX11_entry_12 rfl rfl ?_
      refine sp_getfield X (pc := 13) (c := 12) (i := 2) (t := 2) (a := (A 17)) (v := va_rf (some (A 2))) rfl (by first | assumption | omega) (by decide) rfl (congrArg va_rf (hS.p 770 17 2 (by decide))) fl_SP_28 dX11_entry_13 ?_
      refine sp_iload_n X (pc := 16) (x := pa) dX11_entry_16 rfl rfl ?_
      refine sp_callS X (pc := 17) (mc := 0) (ms := 0) (As := [va_rf (some (A 2)), .int pa]) (rest := []) (c_SP_memberOf l G _ (r := 0) li2 el2 h29) ok_SP_memberOf lk_SP_97 rfl rfl (Nat.zero_le _) (Nat.le_of_ble_eq_true rfl) (Nat.le_of_ble_eq_true rfl) (Nat.zero_le _) (Nat.zero_le _) dX11_entry_17 (sp_kR fun v17 m17 hp17 => ?_)
      obtain ⟨hp17, hp17m⟩ := hp17; replace hp17m := (hp17m).symm; subst hp17m
      have hx17 : ∀ b, v17 = some b → m.ty b = 8 ∧ m.ln b ≤ 8 := fun b hb => by
        rcases hp17 with ⟨j, b2, z1, z2, z3, z4, z5⟩ | ⟨-, z⟩
        · rw [z3] at hb
          cases hb
          refine ⟨z5, ?_⟩
          obtain ⟨b3, q1, q2⟩ := (hI.J.el li2 (sp_e0 _)).2 j z1
          rw [(hS.2.2.1 2 sp_ix2).1] at q2
          rw [z4] at q1
          cases q1
          exact q2.2 rfl
        · rw [z] at hb; cases hb
      refine sp_astore X (pc := 20) (lv' := [(6, false, va_rf v17), (0, false, va_rf (some (A 17))), (1, false, .int kd), (2, false, .int pa), (3, false, .int wi), (4, true, .long sz)]) dX11_entry_20  (by decide) rfl ?_
      refine sp_aload_n X (pc := 22) (r := some (A 17)) dX11_entry_22 rfl rfl ?_
      refine sp_iload_n X (pc := 23) (x := kd) dX11_entry_23 rfl rfl ?_
      refine sp_iload_n X (pc := 24) (x := wi) dX11_entry_24 rfl rfl ?_
      refine sp_aload X (pc := 25) (r := v17) dX11_entry_25 rfl ?_
      refine sp_callV X (pc := 27) (mc := 0) (ms := 0) (b := (A 17)) (c := 12) (r := some (A 17)) (As := [.int kd, .int wi, va_rf v17]) (rest := []) (c_SP_otherOf l G _ hG hI li2 li3 (fun b hb => (hx17 b hb).1)) ok_SP_otherOf rfl t17 (by decide) rfl lk_SP_124 rfl rfl (Nat.zero_le _) (Nat.le_of_ble_eq_true rfl) (Nat.le_of_ble_eq_true rfl) (Nat.zero_le _) (Nat.zero_le _) dX11_entry_27 (sp_kR fun v27 m27 hp27 => ?_)
      obtain ⟨hp27, hp27m⟩ := hp27; replace hp27m := (hp27m).symm; subst hp27m
      obtain ⟨hx27, ho27⟩ := hp27
      refine sp_astore X (pc := 30) (lv' := [(7, false, va_rf v27), (6, false, va_rf v17), (0, false, va_rf (some (A 17))), (1, false, .int kd), (2, false, .int pa), (3, false, .int wi), (4, true, .long sz)]) dX11_entry_30  (by decide) rfl ?_
      refine sp_aload X (pc := 32) (r := v17) dX11_entry_32 rfl ?_
      refine sp_ifnull X (pc := 34) (tgt := 42) dX11_entry_34 (by decide) (fun hb34 => ?_) (fun ra34 hb34 => ?_)
      · have hne : ¬ pu_ent kd pa wi sz s2 s3 := fun z => by
          rcases hp17 with ⟨j, b2, z1, z2, z3, z4, z5⟩ | ⟨z1, -⟩
          · rw [z3] at hb34; cases hb34
          · exact sp_vno z1 (by omega) z.2.2.1
        refine sp_bipush X (pc := 42) (v := (-7)) dX11_entry_42 (by decide) ?_
        refine sp_ireturn X (pc := 44) dX11_entry_44 rfl ⟨_, rfl, ?_⟩
        exact Or.inl ⟨hne, rfl, rfl⟩
      · have hnt := hx17 _ hb34
        have hown : ∃ j, j < s2 ∧ pa = nI j ∧ m.aR e2 j = some ra34 := by
          rcases hp17 with ⟨j, b2, z1, z2, z3, z4, z5⟩ | ⟨-, z⟩
          · rw [z3] at hb34; cases hb34; exact ⟨j, z1, z2, z4⟩
          · rw [z] at hb34; cases hb34
        subst hb34
        refine sp_aload X (pc := 37) (r := v27) dX11_entry_37 rfl ?_
        refine sp_ifnonnull X (pc := 39) (tgt := 45) dX11_entry_39 (by decide) (fun ra39 hb39 => ?_) (fun hb39 => ?_)
        · have hnt2 := hx27 _ hb39
          have hoth : (kd = 2 ∧ ∃ j, j < s3 ∧ wi = nI j ∧ m.aR e3 j = some ra39) ∨ (kd = 3 ∧ ∃ j, j < s2 ∧ wi = nI j ∧ m.aR e2 j = some ra39) ∨ (¬ kd = 2 ∧ ¬ kd = 3 ∧ ra39 = ra34) := by
            rcases ho27 with ⟨w1, ⟨j, b, q1, q2, q3, q4⟩ | ⟨q1, q2⟩⟩ | ⟨w1, ⟨j, b, q1, q2, q3, q4⟩ | ⟨q1, q2⟩⟩ | ⟨w1, w2, w3⟩
            · rw [q3] at hb39; cases hb39; exact Or.inl ⟨w1, j, q1, q2, q4⟩
            · rw [q2] at hb39; cases hb39
            · rw [q3] at hb39; cases hb39; exact Or.inr (Or.inl ⟨w1, j, q1, q2, q4⟩)
            · rw [q2] at hb39; cases hb39
            · rw [w3] at hb39; cases hb39; exact Or.inr (Or.inr ⟨w1, w2, rfl⟩)
          subst hb39
          refine sp_iload_n X (pc := 45) (x := kd) dX11_entry_45 rfl rfl ?_
          refine sp_if_ne X (pc := 46) (tgt := 61) dX11_entry_46 (by decide) (fun hb46 => ?_) (fun hb46 => ?_)
          · refine sp_pick X [2, 3, 5, 6, 1, 0] (lv' := [(0, false, va_rf (some (A 17))), (1, false, .int kd), (3, false, .int wi), (4, true, .long sz), (6, false, va_rf (some ra34)), (7, false, va_rf (some ra39))]) rfl ?_
            first
              | exact cut61 ra34 ra39 ⟨hb1, hb6⟩ hnt.1 hnt.2 hnt2 hown hoth (fun z => absurd z hb46)
              | exact cut61 ra34 ra39 ⟨hb1, hb6⟩ hnt.1 hnt.2 hnt2 hown hoth (fun _ => Or.inl hb50)
              | exact cut61 ra34 ra39 ⟨hb1, hb6⟩ hnt.1 hnt.2 hnt2 hown hoth (fun _ => Or.inr hb55)
          · refine sp_iload_n X (pc := 49) (x := wi) dX11_entry_49 rfl rfl ?_
            refine sp_if_eq X (pc := 50) (tgt := 61) dX11_entry_50 (by decide) (fun hb50 => ?_) (fun hb50 => ?_)
            · refine sp_pick X [2, 3, 5, 6, 1, 0] (lv' := [(0, false, va_rf (some (A 17))), (1, false, .int kd), (3, false, .int wi), (4, true, .long sz), (6, false, va_rf (some ra34)), (7, false, va_rf (some ra39))]) rfl ?_
              first
                | exact cut61 ra34 ra39 ⟨hb1, hb6⟩ hnt.1 hnt.2 hnt2 hown hoth (fun z => absurd z hb46)
                | exact cut61 ra34 ra39 ⟨hb1, hb6⟩ hnt.1 hnt.2 hnt2 hown hoth (fun _ => Or.inl hb50)
                | exact cut61 ra34 ra39 ⟨hb1, hb6⟩ hnt.1 hnt.2 hnt2 hown hoth (fun _ => Or.inr hb55)
            · refine sp_iload_n X (pc := 53) (x := wi) dX11_entry_53 rfl rfl ?_
              refine sp_iconst X (pc := 54) (v := 1) dX11_entry_54 (by decide) ?_
              refine sp_icmp_eq X (pc := 55) (tgt := 61) dX11_entry_55 (by decide) (fun hb55 => ?_) (fun hb55 => ?_)
              · refine sp_pick X [2, 3, 5, 6, 1, 0] (lv' := [(0, false, va_rf (some (A 17))), (1, false, .int kd), (3, false, .int wi), (4, true, .long sz), (6, false, va_rf (some ra34)), (7, false, va_rf (some ra39))]) rfl ?_
                first
                  | exact cut61 ra34 ra39 ⟨hb1, hb6⟩ hnt.1 hnt.2 hnt2 hown hoth (fun z => absurd z hb46)
                  | exact cut61 ra34 ra39 ⟨hb1, hb6⟩ hnt.1 hnt.2 hnt2 hown hoth (fun _ => Or.inl hb50)
                  | exact cut61 ra34 ra39 ⟨hb1, hb6⟩ hnt.1 hnt.2 hnt2 hown hoth (fun _ => Or.inr hb55)
              · refine sp_bipush X (pc := 58) (v := (-7)) dX11_entry_58 (by decide) ?_
                refine sp_ireturn X (pc := 60) dX11_entry_60 rfl ⟨_, rfl, ?_⟩
                exact Or.inl ⟨fun z => (z.2.2.2.1 hb46).elim hb50 hb55, rfl, rfl⟩
        · have hne : ¬ pu_ent kd pa wi sz s2 s3 := fun z => by
            rcases ho27 with ⟨w1, ⟨j, b, q1, q2, q3, q4⟩ | ⟨q1, q2⟩⟩ | ⟨w1, ⟨j, b, q1, q2, q3, q4⟩ | ⟨q1, q2⟩⟩ | ⟨w1, w2, w3⟩
            · rw [q3] at hb39; cases hb39
            · exact q1 (z.2.2.2.2.2.1 w1)
            · rw [q3] at hb39; cases hb39
            · exact q1 (z.2.2.2.2.2.2 w1)
            · rw [w3] at hb39; cases hb39
          refine sp_bipush X (pc := 42) (v := (-7)) dX11_entry_42 (by decide) ?_
          refine sp_ireturn X (pc := 44) dX11_entry_44 rfl ⟨_, rfl, ?_⟩
          exact Or.inl ⟨hne, rfl, rfl⟩
    · refine sp_bipush X (pc := 9) (v := (-7)) dX11_entry_9 (by decide) ?_
      refine sp_ireturn X (pc := 11) dX11_entry_11 rfl ⟨_, rfl, ?_⟩
      first | exact Or.inl ⟨fun z => z.1 hb1, rfl, rfl⟩ | exact Or.inl ⟨fun z => hb6 z.2.1, rfl, rfl⟩
