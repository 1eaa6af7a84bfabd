set_option maxHeartbeats 2000000 in
set_option maxRecDepth 20000 in
theorem c_Draft_cut (l : Launch) (G : sp_G) (m : sp_M) {d db n rl : Nat} {P E : Nat → Prop} (hG : sp_GS G) (hJ : sp_J G P E m) (hwf : sp_wf m) (hP : ∀ a, P a → a < m.nx) (hE : ∀ a, E a → a < m.nx) (hd : sp_dr m d db n) (hdE : ¬ E d) (hrl : m.ty rl = 9) {R : Int32} (hDv : ∀ x, sp_dv m rl x ↔ ¬ sp_pb R x = 0) : sp_C l G M_Draft_cut 645 65047 [.ref d, .ref rl] m (sp_oR fun v m' => ∃ L ed s, v = some L ∧ m.nx ≤ L ∧ sp_J G P E m' ∧ sp_wf m' ∧ sp_fx m m' sp_w0 ∧ sp_li G m' L ed s ∧ s ≤ 161 ∧ m'.ln L = 105 ∧ (∀ a, m'.ty a = 8 → ¬ E a → m'.fR 450 a ≠ some L) ∧ ¬ E L ∧ ∃ ls : List (Nat × Nat), ls.length = s ∧ sp_TR (m.aI db) R n 0 ls ∧ ∀ j, j < s → ∃ nm, m'.aR ed j = some nm ∧ sp_nv m' nm (sp_nme (m.aI db) (ls.getD j (0, 0)))) := by
  refine sp_enter (lv0 := [(0, false, va_rf (some d)), (1, false, va_rf (some rl))]) "SafePaths$Draft" false rfl (by decide) (fun h => by cases h) (Nat.le_of_ble_eq_true rfl) rfl ?_
  intro w X
  have hn6 := hd.2.2.2.2.2
  have hbs9 := hn6
  refine sp_new X (pc := 0) (c := 0) (N := 3) (by decide) rfl cl_Draft_25 in_0 it_0 (by decide) (by decide) dX1_cut_0 ?_
  refine sp_ghost X m.nx 105 (by rw [sp_newO_ty, if_pos rfl]; decide) (by rw [sp_newO_ty, if_pos rfl]; decide) ?_
  refine sp_dup X (pc := 3) dX1_cut_3 (sp_cat_rf _) ?_
  refine sp_callI X (pc := 4) (mc := 0) (ms := 0) (b := m.nx) (r := some m.nx) (As := []) (rest := [va_rf (some m.nx)]) (c_List_init l G _ (o := m.nx) hG (by show (m.newO 0).ty m.nx = _; rw [sp_newO_ty, if_pos rfl])) ok_List_init rfl rfl lk_Draft_27 rfl rfl (by simp [sp_cat_rf, sp_cat_i, sp_cat_l]) (Nat.le_of_ble_eq_true rfl) (Nat.le_of_ble_eq_true rfl) (Nat.zero_le _) (Nat.zero_le _) dX1_cut_4 (sp_kV fun m4 hp4 => ?_)
  subst hp4
  obtain ⟨m1, hm1⟩ : ∃ m1, m1 = (((m.newO 0).gh m.nx 105).pI 0 m.nx 0).pR 1 m.nx (some (G.sk 3)) := ⟨_, rfl⟩
  have h1J : sp_J G P (sp_E1 E m.nx) m1 := by
    rw [hm1]
    exact ((hJ.newO hwf 0 105).pI (by decide)).pR (Or.inr (Or.inr rfl))
  have h1n : m1.nx = m.nx + 1 := by rw [hm1]; rfl
  have h1t : ∀ a, m1.ty a = if a = m.nx then 1 else m.ty a := fun a => by rw [hm1]; rfl
  have h1l : m1.ln m.nx = 105 := by rw [hm1]; show (if m.nx = m.nx then 105 else _) = _; rw [if_pos rfl]
  have h1f : m1.fR 1 m.nx = some (G.sk 3) := by rw [hm1, sp_pR_fR, if_pos ⟨rfl, rfl⟩]
  have h1s : m1.fI 2 m.nx = 0 := by
    rw [hm1]
    show (((m.newO 0).gh m.nx 105).pI 0 m.nx 0).fI 2 m.nx = 0
    rw [sp_pI_fI, if_neg (by simp)]
    show (m.newO 0).fI 2 m.nx = 0
    rw [sp_newO_fI, if_pos rfl]
  obtain ⟨hJ1, hL1⟩ := h1J.list (by rw [h1t, if_pos rfl]) h1l (by unfold sp_rl; omega) h1f h1s
  have hw1 : sp_wf m1 := by rw [hm1]; exact hwf.newO 0
  have hfx1 : sp_fx m m1 sp_w0 := by
    rw [hm1]
    exact ((((sp_fx.refl m sp_w0).newO 0).gh (Nat.le_refl _)).pI (Or.inr (Nat.le_refl _))).pR (Or.inr (Nat.le_refl _))
  have hr1 : ∀ a, m1.ty a = 8 → ¬ E a → m1.fR 450 a ≠ some m.nx := fun a q1 q2 q3 => by
    have hz := hwf.z
    rw [h1t] at q1
    split at q1
    · omega
    · obtain ⟨L9, nn9, s9, p1, p2, -⟩ := hJ.2.2.2.2.2.1 a q1 q2
      rw [hfx1.2.2.2.2.1 _ _ (hwf a (by omega)) (fun z => z), p1] at q3
      have := Option.some.inj q3
      rw [this] at p2
      omega
  have hnE : ¬ E m.nx := fun q => by have := hE _ q; omega
  rw [show (((m.newO 0).gh m.nx 105).pI 0 m.nx 0).pR 1 m.nx (some (G.sk 3)) = m1 from hm1.symm]
  refine sp_astore_n X (pc := 7) (lv' := [(2, false, va_rf (some m.nx)), (0, false, va_rf (some d)), (1, false, va_rf (some rl))]) dX1_cut_7 rfl (by decide) rfl ?_
  refine sp_iconst X (pc := 8) (v := 0) dX1_cut_8 (by decide) ?_
  refine sp_istore_n X (pc := 9) (lv' := [(3, false, .int 0), (2, false, va_rf (some m.nx)), (0, false, va_rf (some d)), (1, false, va_rf (some rl))]) dX1_cut_9 rfl (by decide) rfl ?_
  refine sp_iconst X (pc := 10) (v := 0) dX1_cut_10 (by decide) ?_
  refine sp_istore X (pc := 11) (lv' := [(4, false, .int 0), (3, false, .int 0), (2, false, va_rf (some m.nx)), (0, false, va_rf (some d)), (1, false, va_rf (some rl))]) dX1_cut_11  (by decide) rfl ?_
  have loop13 : ∀ (dz : Nat) (mm : sp_M) (ed s bg c kk nn : Nat), sp_J G P E mm → sp_wf mm → sp_fx m mm sp_w0 → sp_li G mm m.nx ed s → mm.ln m.nx = 105 → (∀ a, mm.ty a = 8 → ¬ E a → mm.fR 450 a ≠ some m.nx) → s ≤ bg + c → mm.ln ed ≤ 2 * s + 10 → bg + c ≤ n + 1 → (m.nx ≤ ed ∨ mm.ln ed = 0) → 4 * (161 - (bg + c)) ≤ kk → 402 * (161 - (bg + c)) + 2 * (161 - bg) ≤ nn → (∀ j, j < c → sp_pb R (m.aI db (bg + j)) = 0) → (∃ ls : List (Nat × Nat), ls.length = s ∧ (∀ l', sp_TR (m.aI db) R n bg l' → sp_TR (m.aI db) R n 0 (ls ++ l')) ∧ ∀ j, j < s → ∃ nm, mm.aR ed j = some nm ∧ sp_nv mm nm (sp_nme (m.aI db) (ls.getD j (0, 0)))) → (n < bg + c → c = 0) → n + 1 - (bg + c) = dz → w kk nn mm 13 [(0, false, va_rf (some d)), (1, false, va_rf (some rl)), (2, false, va_rf (some m.nx)), (3, false, .int (nI bg)), (4, false, .int (nI (bg + c)))] [] := by
    intro dz
    induction dz using Nat.strongRecOn with
    | ind dz ih =>
      intro mm ed s bg c kk nn iJ iw hfx iL iln ir is icap ic ied ik inn ipb iP iz hdz
      have hdm := hfx.dr hwf hd (fun z => z) (fun z => z)
      have hdbm : mm.aI db = m.aI db := (hfx.2.2.2.2.2 db (hwf db (by have := hd.2.2.1; omega)) (fun z => z)).1
      have hDvm : ∀ x, sp_dv mm rl x ↔ ¬ sp_pb R x = 0 := fun x => by
        rw [← hDv x]
        unfold sp_dv
        rw [hfx.2.2.1 512 rl (hwf rl (by omega)) (fun z => z)]
      refine sp_iload X (pc := 13) (x := nI (bg + c)) dX1_cut_13 rfl ?_
      refine sp_aload_n X (pc := 15) (r := some d) dX1_cut_15 rfl rfl ?_
      refine sp_getfield X (pc := 16) (c := 2) (i := 1) (t := 0) (a := d) (v := .int (nI n)) rfl hdm.1 (by decide) rfl (congrArg Value.int hdm.2.2.2.2.1) fl_Draft_15 dX1_cut_16 ?_
      refine sp_icmp_gt X (pc := 19) (tgt := 64) dX1_cut_19 (by decide) (fun hb19 => ?_) (fun hb19 => ?_)
      · have hi : n < bg + c := (nI_ltI (by omega) (by omega)).mp hb19
        refine sp_aload_n X (pc := 64) (r := some m.nx) dX1_cut_64 rfl rfl ?_
        refine sp_areturn X (pc := 65) (by first | exact Or.inl ⟨_, rfl⟩ | exact Or.inr ⟨_, rfl⟩) dX1_cut_65 ⟨_, rfl, ?_⟩
        obtain ⟨ls, k1, k2, k3⟩ := iP
        refine ⟨m.nx, ed, s, rfl, Nat.le_refl _, iJ, iw, hfx, iL, by omega, iln, ir, hnE, ls, k1, ?_, k3⟩
        have k4 := k2 [] (sp_TR.end_ (by have := iz hi; omega))
        rw [List.append_nil] at k4
        exact k4
      · have hi : bg + c ≤ n := Nat.le_of_not_lt fun q => hb19 (nI_lt q (by omega))
        refine sp_iload X (pc := 22) (x := nI (bg + c)) dX1_cut_22 rfl ?_
        refine sp_aload_n X (pc := 24) (r := some d) dX1_cut_24 rfl rfl ?_
        refine sp_getfield X (pc := 25) (c := 2) (i := 1) (t := 0) (a := d) (v := .int (nI n)) rfl hdm.1 (by decide) rfl (congrArg Value.int hdm.2.2.2.2.1) fl_Draft_15 dX1_cut_25 ?_
        refine sp_icmp_eq X (pc := 28) (tgt := 45) dX1_cut_28 (by decide) (fun hb28 => ?_) (fun hb28 => ?_)
        · have hRN : sp_RN (m.aI db) R n bg c := ⟨hi, ipb, fun z => absurd (sp_neq hb28 (by omega) (by omega)) (by omega)⟩
          refine sp_aload_n X (pc := 45) (r := some d) dX1_cut_45 rfl rfl ?_
          refine sp_aload_n X (pc := 46) (r := some m.nx) dX1_cut_46 rfl rfl ?_
          refine sp_iload_n X (pc := 47) (x := nI bg) dX1_cut_47 rfl rfl ?_
          refine sp_iload X (pc := 48) (x := nI (bg + c)) dX1_cut_48 rfl ?_
          refine sp_callV X (pc := 50) (mc := 4) (ms := 402 + 2 * c) (b := d) (c := 2) (r := some d) (As := [va_rf (some m.nx), .int (nI bg), .int (nI (bg + c))]) (rest := []) (c_Draft_addUnlessPassedOver l G _ (d := d) (db := db) (n := n) (L := m.nx) (ed := ed) (s := s) (f := bg) (c := c) hG iJ iw (fun a q => Nat.lt_of_lt_of_le (hP a q) hfx.1) (fun a q => Nat.lt_of_lt_of_le (hE a q) hfx.1) hdm hdE iL hnE iln ir hi icap (by omega)) ok_Draft_addUnlessPassedOver rfl hdm.1 (by decide) rfl lk_Draft_28 rfl rfl (Nat.zero_le _) (Nat.le_of_ble_eq_true rfl) (Nat.le_of_ble_eq_true rfl) (by omega) (by omega) dX1_cut_50 (sp_kV fun m50 hp50 => ?_)
          obtain ⟨jJ, jw, jfx, jred, jai, jpt, ed', s', jL, j1, j2, j3, j4, j5, j6⟩ := hp50
          rw [hdbm] at j6
          have jnx : m.nx ≤ mm.nx := hfx.1
          have jLn : m.nx < mm.nx := iw m.nx (by have := iL.1; omega)
          have hfx' : sp_fx m m50 sp_w0 := by
            refine ⟨Nat.le_trans hfx.1 jfx.1, fun a ha => ?_, fun k a ha _ => ?_, fun k a ha _ => ?_, fun k a ha _ => ?_, fun a ha _ => ?_⟩
            · have q := jfx.2.1 a (by omega); have r := hfx.2.1 a ha
              exact ⟨q.1.trans r.1, q.2.trans r.2⟩
            · exact (jfx.2.2.1 k a (by omega) (by rintro ⟨-, z⟩; omega)).trans (hfx.2.2.1 k a ha (fun z => z))
            · exact (jfx.2.2.2.1 k a (by omega) (fun z => z)).trans (hfx.2.2.2.1 k a ha (fun z => z))
            · exact (jfx.2.2.2.2.1 k a (by omega) (by rintro ⟨-, z⟩; omega)).trans (hfx.2.2.2.2.1 k a ha (fun z => z))
            · have r := hfx.2.2.2.2.2 a ha (fun z => z)
              by_cases q : a = ed
              · subst q
                have hz0 : mm.ln a = 0 := by rcases ied with z | z; omega; exact z
                have hk25 : mm.ty a = 25 := by have := iL.2.2.2.2.2; omega
                have h9 := jred (by omega)
                refine ⟨?_, ?_, h9.trans r.2.2⟩
                · exact (jai a (by omega)).1.trans r.1
                · exact (jai a (by omega)).2.trans r.2.1
              · have q9 := jfx.2.2.2.2.2 a (by omega) q
                exact ⟨q9.1.trans r.1, q9.2.1.trans r.2.1, q9.2.2.trans r.2.2⟩
          refine sp_iload X (pc := 53) (x := nI (bg + c)) dX1_cut_53 rfl ?_
          refine sp_iconst X (pc := 55) (v := 1) dX1_cut_55 (by decide) ?_
          refine sp_iadd X (pc := 56) dX1_cut_56 ?_
          rw [show ((nI (bg + c)) + 1) = nI (bg + c + 1) from (nI_1 _)]
          refine sp_istore_n X (pc := 57) (lv' := [(3, false, .int (nI (bg + c + 1))), (0, false, va_rf (some d)), (1, false, va_rf (some rl)), (2, false, va_rf (some m.nx)), (4, false, .int (nI (bg + c)))]) dX1_cut_57 rfl (by decide) rfl ?_
          refine sp_iinc X (pc := 58) (v := nI (bg + (c + 1))) (lv' := [(4, false, .int (nI (bg + (c + 1)))), (3, false, .int (nI (bg + c + 1))), (0, false, va_rf (some d)), (1, false, va_rf (some rl)), (2, false, va_rf (some m.nx))]) dX1_cut_58 rfl ((nI_1 _)) (by decide) rfl ?_
          refine sp_goto X (pc := 61) (tgt := 13) dX1_cut_61 (by decide) ?_
          refine sp_pick X [2, 3, 4, 1, 0] (lv' := [(0, false, va_rf (some d)), (1, false, va_rf (some rl)), (2, false, va_rf (some m.nx)), (3, false, .int (nI (bg + c + 1))), (4, false, .int (nI (bg + (c + 1))))]) rfl ?_
          first
            | exact ih (n + 1 - (bg + (c + 1))) (by omega) mm ed s bg (c + 1) kk nn iJ iw hfx iL iln ir (by omega) icap (by omega) ied (by omega) (by omega) (fun j z => by
                rcases Nat.lt_or_ge j c with q | q
                · exact ipb j q
                · obtain rfl : j = c := by omega
                  exact hnp) iP (fun z => by omega) rfl
            | exact ih (n + 1 - (bg + c + 1)) (by omega) m50 ed' s' (bg + c + 1) 0 (kk - 4) (nn - (402 + 2 * c)) jJ jw hfx' jL (by rw [jfx.ln iw iL.1 (by decide)]; exact iln) (fun a q1 q2 => by have q3 := jpt a q1; rw [jfx.2.2.2.2.1 _ _ (iw a (by omega)) (by rintro ⟨z, -⟩; omega)]; exact ir a q3 q2) (by omega) j3 (by omega) (by have := jfx.1; rcases j4 with z | z; subst z; rcases ied with q | q; exact Or.inl q; right; rw [(jfx.2.1 _ (iw _ (by have := iL.2.2.2.2.2; omega))).2]; exact q; left; omega) (by omega) (by omega) (fun j z => by omega) (by
                obtain ⟨ls, k1, k2, k3⟩ := iP
                have k4 : ∀ j, j < s → ∃ nm, m50.aR ed' j = some nm ∧ sp_nv m50 nm (sp_nme (m.aI db) (ls.getD j (0, 0))) := fun j hj => by
                  obtain ⟨nm, q1, q2⟩ := k3 j hj
                  exact ⟨nm, (j5 j hj).trans q1, q2.fx iw jfx (fun z => absurd z.1 (by decide)) (fun z => absurd z.1 (by decide)) (fun a z => by have z : a = ed := z; have := iL.2.2.2.2.2; rw [z]; omega)⟩
                rcases j6 with ⟨rfl, q2⟩ | ⟨rfl, q2, nm, q3, q4⟩
                · exact ⟨ls, k1, fun l' h => k2 l' (sp_TR.skip hRN q2 h), k4⟩
                · refine ⟨ls ++ [(bg + c + 1, c)], by rw [List.length_append, k1]; rfl, fun l' h => ?_, fun j hj => ?_⟩
                  · rw [List.append_assoc]
                    exact k2 _ (sp_TR.hit hRN q2 h)
                  · rcases Nat.lt_or_ge j s with q | q
                    · rw [List.getD_eq_getElem?_getD, List.getElem?_append_left (by omega), ← List.getD_eq_getElem?_getD]
                      exact k4 j q
                    · obtain rfl : j = s := by omega
                      refine ⟨nm, q3, ?_⟩
                      rw [List.getD_eq_getElem?_getD, List.getElem?_append_right (by omega), show j - ls.length = 0 by omega]
                      show sp_nv m50 nm (sp_seg (m.aI db) (bg + c + 1 - 1 - c) c)
                      rw [show bg + c + 1 - 1 - c = bg by omega]
                      exact q4) (fun _ => rfl) rfl
        · have hin : bg + c < n := by
            rcases Nat.lt_or_ge (bg + c) n with q | q
            · exact q
            · exact absurd (show nI (bg + c) = nI n by congr 1; omega) hb28
          refine sp_aload_n X (pc := 31) (r := some rl) dX1_cut_31 rfl rfl ?_
          refine sp_aload_n X (pc := 32) (r := some d) dX1_cut_32 rfl rfl ?_
          refine sp_getfield X (pc := 33) (c := 2) (i := 0) (t := 2) (a := d) (v := va_rf (some db)) rfl hdm.1 (by decide) rfl (congrArg va_rf hdm.2.1) fl_Draft_9 dX1_cut_33 ?_
          refine sp_iload X (pc := 36) (x := nI (bg + c)) dX1_cut_36 rfl ?_
          refine sp_iaload X (pc := 38) (a := db) rfl (Or.inl hdm.2.2.1) (by rw [hdm.2.2.2.1]; exact vp_in_nI (by omega) (by omega)) dX1_cut_38 ?_
          rw [show (mm.aI db (nI (bg + c)).toNatClampNeg) = (m.aI db (bg + c)) from (by rw [nI_clamp (by omega), hdbm])]
          refine sp_callV X (pc := 39) (mc := 0) (ms := 0) (b := rl) (c := 8) (r := some rl) (As := [.int (m.aI db (bg + c))]) (rest := []) (c_Rules_divides l G _ (hfx.ty hwf hrl (by decide))) ok_Rules_divides rfl (hfx.ty hwf hrl (by decide)) (by decide) rfl lk_Draft_19 rfl rfl (Nat.zero_le _) (Nat.le_of_ble_eq_true rfl) (Nat.le_of_ble_eq_true rfl) (Nat.zero_le _) (Nat.zero_le _) dX1_cut_39 (sp_kI fun v39 m39 hp39 => ?_)
          obtain ⟨hp39, hp39m⟩ := hp39; replace hp39m := (hp39m).symm; subst hp39m
          refine sp_if_eq X (pc := 42) (tgt := 58) dX1_cut_42 (by decide) (fun hb42 => ?_) (fun hb42 => ?_)
          · have hnp : sp_pb R (m.aI db (bg + c)) = 0 := Classical.byContradiction fun z => (hp39.eq hb42) ((hDvm _).mpr z)
            refine sp_iinc X (pc := 58) (v := nI (bg + (c + 1))) (lv' := [(4, false, .int (nI (bg + (c + 1)))), (0, false, va_rf (some d)), (1, false, va_rf (some rl)), (2, false, va_rf (some m.nx)), (3, false, .int (nI bg))]) dX1_cut_58 rfl ((nI_1 _)) (by decide) rfl ?_
            refine sp_goto X (pc := 61) (tgt := 13) dX1_cut_61 (by decide) ?_
            refine sp_pick X [1, 2, 3, 4, 0] (lv' := [(0, false, va_rf (some d)), (1, false, va_rf (some rl)), (2, false, va_rf (some m.nx)), (3, false, .int (nI bg)), (4, false, .int (nI (bg + (c + 1))))]) rfl ?_
            first
              | exact ih (n + 1 - (bg + (c + 1))) (by omega) mm ed s bg (c + 1) kk nn iJ iw hfx iL iln ir (by omega) icap (by omega) ied (by omega) (by omega) (fun j z => by
                  rcases Nat.lt_or_ge j c with q | q
                  · exact ipb j q
                  · obtain rfl : j = c := by omega
                    exact hnp) iP (fun z => by omega) rfl
              | exact ih (n + 1 - (bg + c + 1)) (by omega) m50 ed' s' (bg + c + 1) 0 (kk - 4) (nn - (402 + 2 * c)) jJ jw hfx' jL (by rw [jfx.ln iw iL.1 (by decide)]; exact iln) (fun a q1 q2 => by have q3 := jpt a q1; rw [jfx.2.2.2.2.1 _ _ (iw a (by omega)) (by rintro ⟨z, -⟩; omega)]; exact ir a q3 q2) (by omega) j3 (by omega) (by have := jfx.1; rcases j4 with z | z; subst z; rcases ied with q | q; exact Or.inl q; right; rw [(jfx.2.1 _ (iw _ (by have := iL.2.2.2.2.2; omega))).2]; exact q; left; omega) (by omega) (by omega) (fun j z => by omega) (by
                  obtain ⟨ls, k1, k2, k3⟩ := iP
                  have k4 : ∀ j, j < s → ∃ nm, m50.aR ed' j = some nm ∧ sp_nv m50 nm (sp_nme (m.aI db) (ls.getD j (0, 0))) := fun j hj => by
                    obtain ⟨nm, q1, q2⟩ := k3 j hj
                    exact ⟨nm, (j5 j hj).trans q1, q2.fx iw jfx (fun z => absurd z.1 (by decide)) (fun z => absurd z.1 (by decide)) (fun a z => by have z : a = ed := z; have := iL.2.2.2.2.2; rw [z]; omega)⟩
                  rcases j6 with ⟨rfl, q2⟩ | ⟨rfl, q2, nm, q3, q4⟩
                  · exact ⟨ls, k1, fun l' h => k2 l' (sp_TR.skip hRN q2 h), k4⟩
                  · refine ⟨ls ++ [(bg + c + 1, c)], by rw [List.length_append, k1]; rfl, fun l' h => ?_, fun j hj => ?_⟩
                    · rw [List.append_assoc]
                      exact k2 _ (sp_TR.hit hRN q2 h)
                    · rcases Nat.lt_or_ge j s with q | q
                      · rw [List.getD_eq_getElem?_getD, List.getElem?_append_left (by omega), ← List.getD_eq_getElem?_getD]
                        exact k4 j q
                      · obtain rfl : j = s := by omega
                        refine ⟨nm, q3, ?_⟩
                        rw [List.getD_eq_getElem?_getD, List.getElem?_append_right (by omega), show j - ls.length = 0 by omega]
                        show sp_nv m50 nm (sp_seg (m.aI db) (bg + c + 1 - 1 - c) c)
                        rw [show bg + c + 1 - 1 - c = bg by omega]
                        exact q4) (fun _ => rfl) rfl
          · have hRN : sp_RN (m.aI db) R n bg c := ⟨hi, ipb, fun z => (hDvm _).mp (hp39.ne hb42)⟩
            refine sp_aload_n X (pc := 45) (r := some d) dX1_cut_45 rfl rfl ?_
            refine sp_aload_n X (pc := 46) (r := some m.nx) dX1_cut_46 rfl rfl ?_
            refine sp_iload_n X (pc := 47) (x := nI bg) dX1_cut_47 rfl rfl ?_
            refine sp_iload X (pc := 48) (x := nI (bg + c)) dX1_cut_48 rfl ?_
            refine sp_callV X (pc := 50) (mc := 4) (ms := 402 + 2 * c) (b := d) (c := 2) (r := some d) (As := [va_rf (some m.nx), .int (nI bg), .int (nI (bg + c))]) (rest := []) (c_Draft_addUnlessPassedOver l G _ (d := d) (db := db) (n := n) (L := m.nx) (ed := ed) (s := s) (f := bg) (c := c) hG iJ iw (fun a q => Nat.lt_of_lt_of_le (hP a q) hfx.1) (fun a q => Nat.lt_of_lt_of_le (hE a q) hfx.1) hdm hdE iL hnE iln ir hi icap (by omega)) ok_Draft_addUnlessPassedOver rfl hdm.1 (by decide) rfl lk_Draft_28 rfl rfl (Nat.zero_le _) (Nat.le_of_ble_eq_true rfl) (Nat.le_of_ble_eq_true rfl) (by omega) (by omega) dX1_cut_50 (sp_kV fun m50 hp50 => ?_)
            obtain ⟨jJ, jw, jfx, jred, jai, jpt, ed', s', jL, j1, j2, j3, j4, j5, j6⟩ := hp50
            rw [hdbm] at j6
            have jnx : m.nx ≤ mm.nx := hfx.1
            have jLn : m.nx < mm.nx := iw m.nx (by have := iL.1; omega)
            have hfx' : sp_fx m m50 sp_w0 := by
              refine ⟨Nat.le_trans hfx.1 jfx.1, fun a ha => ?_, fun k a ha _ => ?_, fun k a ha _ => ?_, fun k a ha _ => ?_, fun a ha _ => ?_⟩
              · have q := jfx.2.1 a (by omega); have r := hfx.2.1 a ha
                exact ⟨q.1.trans r.1, q.2.trans r.2⟩
              · exact (jfx.2.2.1 k a (by omega) (by rintro ⟨-, z⟩; omega)).trans (hfx.2.2.1 k a ha (fun z => z))
              · exact (jfx.2.2.2.1 k a (by omega) (fun z => z)).trans (hfx.2.2.2.1 k a ha (fun z => z))
              · exact (jfx.2.2.2.2.1 k a (by omega) (by rintro ⟨-, z⟩; omega)).trans (hfx.2.2.2.2.1 k a ha (fun z => z))
              · have r := hfx.2.2.2.2.2 a ha (fun z => z)
                by_cases q : a = ed
                · subst q
                  have hz0 : mm.ln a = 0 := by rcases ied with z | z; omega; exact z
                  have hk25 : mm.ty a = 25 := by have := iL.2.2.2.2.2; omega
                  have h9 := jred (by omega)
                  refine ⟨?_, ?_, h9.trans r.2.2⟩
                  · exact (jai a (by omega)).1.trans r.1
                  · exact (jai a (by omega)).2.trans r.2.1
                · have q9 := jfx.2.2.2.2.2 a (by omega) q
                  exact ⟨q9.1.trans r.1, q9.2.1.trans r.2.1, q9.2.2.trans r.2.2⟩
            refine sp_iload X (pc := 53) (x := nI (bg + c)) dX1_cut_53 rfl ?_
            refine sp_iconst X (pc := 55) (v := 1) dX1_cut_55 (by decide) ?_
            refine sp_iadd X (pc := 56) dX1_cut_56 ?_
            rw [show ((nI (bg + c)) + 1) = nI (bg + c + 1) from (nI_1 _)]
            refine sp_istore_n X (pc := 57) (lv' := [(3, false, .int (nI (bg + c + 1))), (0, false, va_rf (some d)), (1, false, va_rf (some rl)), (2, false, va_rf (some m.nx)), (4, false, .int (nI (bg + c)))]) dX1_cut_57 rfl (by decide) rfl ?_
            refine sp_iinc X (pc := 58) (v := nI (bg + (c + 1))) (lv' := [(4, false, .int (nI (bg + (c + 1)))), (3, false, .int (nI (bg + c + 1))), (0, false, va_rf (some d)), (1, false, va_rf (some rl)), (2, false, va_rf (some m.nx))]) dX1_cut_58 rfl ((nI_1 _)) (by decide) rfl ?_
            refine sp_goto X (pc := 61) (tgt := 13) dX1_cut_61 (by decide) ?_
            refine sp_pick X [2, 3, 4, 1, 0] (lv' := [(0, false, va_rf (some d)), (1, false, va_rf (some rl)), (2, false, va_rf (some m.nx)), (3, false, .int (nI (bg + c + 1))), (4, false, .int (nI (bg + (c + 1))))]) rfl ?_
            first
              | exact ih (n + 1 - (bg + (c + 1))) (by omega) mm ed s bg (c + 1) kk nn iJ iw hfx iL iln ir (by omega) icap (by omega) ied (by omega) (by omega) (fun j z => by
                  rcases Nat.lt_or_ge j c with q | q
                  · exact ipb j q
                  · obtain rfl : j = c := by omega
                    exact hnp) iP (fun z => by omega) rfl
              | exact ih (n + 1 - (bg + c + 1)) (by omega) m50 ed' s' (bg + c + 1) 0 (kk - 4) (nn - (402 + 2 * c)) jJ jw hfx' jL (by rw [jfx.ln iw iL.1 (by decide)]; exact iln) (fun a q1 q2 => by have q3 := jpt a q1; rw [jfx.2.2.2.2.1 _ _ (iw a (by omega)) (by rintro ⟨z, -⟩; omega)]; exact ir a q3 q2) (by omega) j3 (by omega) (by have := jfx.1; rcases j4 with z | z; subst z; rcases ied with q | q; exact Or.inl q; right; rw [(jfx.2.1 _ (iw _ (by have := iL.2.2.2.2.2; omega))).2]; exact q; left; omega) (by omega) (by omega) (fun j z => by omega) (by
                  obtain ⟨ls, k1, k2, k3⟩ := iP
                  have k4 : ∀ j, j < s → ∃ nm, m50.aR ed' j = some nm ∧ sp_nv m50 nm (sp_nme (m.aI db) (ls.getD j (0, 0))) := fun j hj => by
                    obtain ⟨nm, q1, q2⟩ := k3 j hj
                    exact ⟨nm, (j5 j hj).trans q1, q2.fx iw jfx (fun z => absurd z.1 (by decide)) (fun z => absurd z.1 (by decide)) (fun a z => by have z : a = ed := z; have := iL.2.2.2.2.2; rw [z]; omega)⟩
                  rcases j6 with ⟨rfl, q2⟩ | ⟨rfl, q2, nm, q3, q4⟩
                  · exact ⟨ls, k1, fun l' h => k2 l' (sp_TR.skip hRN q2 h), k4⟩
                  · refine ⟨ls ++ [(bg + c + 1, c)], by rw [List.length_append, k1]; rfl, fun l' h => ?_, fun j hj => ?_⟩
                    · rw [List.append_assoc]
                      exact k2 _ (sp_TR.hit hRN q2 h)
                    · rcases Nat.lt_or_ge j s with q | q
                      · rw [List.getD_eq_getElem?_getD, List.getElem?_append_left (by omega), ← List.getD_eq_getElem?_getD]
                        exact k4 j q
                      · obtain rfl : j = s := by omega
                        refine ⟨nm, q3, ?_⟩
                        rw [List.getD_eq_getElem?_getD, List.getElem?_append_right (by omega), show j - ls.length = 0 by omega]
                        show sp_nv m50 nm (sp_seg (m.aI db) (bg + c + 1 - 1 - c) c)
                        rw [show bg + c + 1 - 1 - c = bg by omega]
                        exact q4) (fun _ => rfl) rfl
  refine sp_pick X [3, 4, 2, 1, 0] (lv' := [(0, false, va_rf (some d)), (1, false, va_rf (some rl)), (2, false, va_rf (some m.nx)), (3, false, .int 0), (4, false, .int 0)]) rfl ?_
  refine sp_less X (k' := 644) (n' := 65044) (by decide) (by decide) ?_
  exact loop13 _ m1 (G.sk 3) 0 0 0 644 65044 hJ1 hw1 hfx1 hL1 h1l hr1 (by omega) (by rw [hJ1.1.2]; omega) (by omega) (Or.inr hJ1.1.2) (by omega) (by omega) (fun j z => by omega) ⟨[], rfl, fun l' z => z, fun j z => by omega⟩ (fun _ => rfl) rfl
