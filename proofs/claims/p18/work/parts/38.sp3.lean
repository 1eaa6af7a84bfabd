set_option maxHeartbeats 1000000 in
set_option maxRecDepth 20000 in
theorem c_SP_path (l : Launch) (G : sp_G) (m : sp_M) {P : Nat → Prop} {A : Nat → Nat} (hG : sp_GS G) (hI : sp_I G P A m) (hO : sp_nob G m) (hb : sp_bn G m A) {d e2 s2 : Nat} {R : Int32} (hd : sp_dr m (A 1) (A 8) d) (li2 : sp_li G m (A 2) e2 s2) (hR : sp_cR m A R) (hby : sp_by (m.aI (A 8)) d) : sp_C l G M_SP_path 650 65400 [.ref (A 17)] m (sp_oI fun v m' => sp_I G P A m' ∧ sp_bn G m' A ∧ ∃ m1, m' = m1.pI 129 (A 1) 0 ∧ sp_I G P A m1 ∧ ∃ us, sp_us (m.aI (A 8)) R d us ∧ ((pu_ref v R (m.aI (A 8)) d s2 us ∧ sp_F m m1 A sp_Tn) ∨ (pu_ok R (m.aI (A 8)) d s2 us ∧ v = nI s2 ∧ sp_F m m1 A sp_T2 ∧ ∃ e2' pa, sp_li G m1 (A 2) e2' (s2 + 1) ∧ (∀ j, j < s2 → m1.aR e2' j = m.aR e2 j) ∧ m1.aR e2' s2 = some pa ∧ sp_pv G m1 pa s2 us))) := by
  refine sp_enter (lv0 := [(0, false, va_rf (some (A 17)))]) "SafePaths" false rfl (by decide) (fun h => by cases h) (Nat.le_of_ble_eq_true rfl) rfl ?_
  intro w X
  have hS := hI.S
  have t0 := hS.k 0 9 (by decide)
  have t1 := hS.k 1 3 (by decide)
  have t2 := hS.k 2 1 (by decide)
  have t17 := hS.k 17 13 (by decide)
  have cut48 : ∀ (m3 : sp_M) (x : Int32), sp_I G P A m3 → sp_bn G m3 A → (∃ us, sp_us (m.aI (A 8)) R d us ∧ ((pu_ref x R (m.aI (A 8)) d s2 us ∧ sp_F m m3 A sp_Tn) ∨ (pu_ok R (m.aI (A 8)) d s2 us ∧ x = nI s2 ∧ sp_F m m3 A sp_T2 ∧ ∃ e2' pa, sp_li G m3 (A 2) e2' (s2 + 1) ∧ (∀ j, j < s2 → m3.aR e2' j = m.aR e2 j) ∧ m3.aR e2' s2 = some pa ∧ sp_pv G m3 pa s2 us))) → w 0 0 m3 48 [(0, false, va_rf (some (A 17))), (2, false, .int x)] [] := by
    intro m3 x c1 c2 c3
    have hS3 := c1.S
    have y1 := hS3.k 1 3 (by decide)
    have y17 := hS3.k 17 13 (by decide)
    refine sp_aload_n X (pc := 48) (r := some (A 17)) dX11_path_48 rfl rfl ?_
    refine sp_getfield X (pc := 49) (c := 12) (i := 1) (t := 2) (a := (A 17)) (v := va_rf (some (A 1))) rfl (by first | assumption | omega) (by decide) rfl (congrArg va_rf (hS3.p 769 17 1 (by decide))) fl_SP_21 dX11_path_49 ?_
    refine sp_callV X (pc := 52) (mc := 0) (ms := 0) (b := (A 1)) (c := 2) (r := (some (A 1))) (As := []) (rest := []) (c_Draft_clear l G _ y1) ok_Draft_clear rfl y1 (by decide) rfl lk_SP_94 rfl rfl (Nat.zero_le _) (Nat.le_of_ble_eq_true rfl) (Nat.le_of_ble_eq_true rfl) (Nat.zero_le _) (Nat.zero_le _) dX11_path_52 (sp_kV fun m52 hp52 => ?_)
    refine sp_iload_n X (pc := 55) (x := x) dX11_path_55 rfl rfl ?_
    refine sp_ireturn X (pc := 56) dX11_path_56 rfl ⟨_, rfl, ?_⟩
    rw [hp52]
    exact ⟨c1.len (d := 0) (Nat.zero_le _), c2.pI (by decide), m3, rfl, c1, c3⟩
  refine sp_aload_n X (pc := 0) (r := some (A 17)) dX11_path_0 rfl rfl ?_
  refine sp_getfield X (pc := 1) (c := 12) (i := 1) (t := 2) (a := (A 17)) (v := va_rf (some (A 1))) rfl (by first | assumption | omega) (by decide) rfl (congrArg va_rf (hS.p 769 17 1 (by decide))) fl_SP_21 dX11_path_1 ?_
  refine sp_aload_n X (pc := 4) (r := some (A 17)) dX11_path_4 rfl rfl ?_
  refine sp_getfield X (pc := 5) (c := 12) (i := 0) (t := 2) (a := (A 17)) (v := va_rf (some (A 0))) rfl (by first | assumption | omega) (by decide) rfl (congrArg va_rf (hS.p 768 17 0 (by decide))) fl_SP_12 dX11_path_5 ?_
  refine sp_callV X (pc := 8) (mc := 645) (ms := 65047) (b := (A 1)) (c := 2) (r := (some (A 1))) (As := [va_rf (some (A 0))]) (rest := []) (c_Draft_cut l G _ (P := P) (E := sp_E0) (R := R) hG hI.J hI.wf hI.2.2.2 (fun a z => z.elim) hd (sp_e0 _) t0 hR.dv) ok_Draft_cut rfl t1 (by decide) rfl lk_SP_73 rfl rfl (Nat.zero_le _) (Nat.le_of_ble_eq_true rfl) (Nat.le_of_ble_eq_true rfl) (by omega) (by omega) dX11_path_8 (sp_kR fun v8 m8 hp8 => ?_)
  obtain ⟨L, ed, s, hv8, hLn, J1, w1, fx1, li1, s161, rl1, np1, -, ls, hls, hTR, hnm⟩ := hp8
  subst hv8
  have I1 := hI.w0 J1 w1 fx1
  have hS8 := I1.S
  have x17 := hS8.k 17 13 (by decide)
  have x2 := hS8.k 2 1 (by decide)
  have li28 : sp_li G m8 (A 2) e2 s2 := fx1.li hI.wf li2 (fun z => z) (fun z => z)
  have F1 : sp_F m m8 A sp_T2 := (sp_F.refl m A sp_T2).w0 fx1
  have Fn : sp_F m m8 A sp_Tn := (sp_F.refl m A sp_Tn).w0 fx1
  have B1 := F1.bn hI hb (by unfold sp_T2; decide) (by unfold sp_T2; decide)
  obtain ⟨us, hus⟩ : ∃ us, us = ls.map (sp_nme (m.aI (A 8))) := ⟨_, rfl⟩
  have hUS : sp_us (m.aI (A 8)) R d us := ⟨ls, hTR, hus⟩
  have hlen : us.length = s := by rw [hus, List.length_map]; exact hls
  subst hlen
  have hnm8 : ∀ k, k < us.length → ∃ nm, m8.aR ed k = some nm ∧ sp_nv m8 nm (us.getD k []) := fun k hk => by
    obtain ⟨nm, q1, q2⟩ := hnm k hk
    refine ⟨nm, q1, ?_⟩
    rw [hus, sp_mapD _ _ (by rw [hls]; exact hk)]
    exact q2
  have hd8 : sp_dr m8 (A 1) (A 8) d := fx1.dr hI.wf hd (fun z => z) (fun z => z)
  have ha8 : m8.aI (A 8) = m.aI (A 8) := (fx1.2.2.2.2.2 (A 8) (hI.lt 8 20 (by decide) (by decide)) (fun z => z)).1
  have hR8 : sp_cR m8 A R := hR.fx hI.wf t0 fx1 (fun _ _ _ z => z)
  refine sp_astore_n X (pc := 11) (lv' := [(1, false, va_rf (some L)), (0, false, va_rf (some (A 17)))]) dX11_path_11 rfl (by decide) rfl ?_
  refine sp_aload_n X (pc := 12) (r := some (A 17)) dX11_path_12 rfl rfl ?_
  refine sp_aload_n X (pc := 13) (r := (some L)) dX11_path_13 rfl rfl ?_
  refine sp_callV X (pc := 14) (mc := 0) (ms := 0) (b := (A 17)) (c := 12) (r := some (A 17)) (As := [va_rf (some L)]) (rest := []) (c_SP_judgeAsPath l G _ hG I1 li1 rl1 s161 li28 hd8 hR8 (fun k hk => ⟨hnm8 k hk, hUS.by_ hby _ (sp_getD_mem hk)⟩)) ok_SP_judgeAsPath rfl x17 (by decide) rfl lk_SP_77 rfl rfl (Nat.zero_le _) (Nat.le_of_ble_eq_true rfl) (Nat.le_of_ble_eq_true rfl) (Nat.zero_le _) (Nat.zero_le _) dX11_path_14 (sp_kI fun v14 m14 hp14 => ?_)
  obtain ⟨hp14, hp14m⟩ := hp14; replace hp14m := (hp14m).symm; subst hp14m
  rw [ha8] at hp14
  refine sp_istore_n X (pc := 17) (lv' := [(2, false, .int v14), (1, false, va_rf (some L)), (0, false, va_rf (some (A 17)))]) dX11_path_17 rfl (by decide) rfl ?_
  refine sp_iload_n X (pc := 18) (x := v14) dX11_path_18 rfl rfl ?_
  refine sp_if_ne X (pc := 19) (tgt := 48) dX11_path_19 (by decide) (fun hb19 => ?_) (fun hb19 => ?_)
  · have hrf : pu_ref v14 R (m.aI (A 8)) d s2 us := by
      rcases hp14 with z | z
      · exact z
      · exact absurd z.2 hb19
    refine sp_pick X [2, 0] (lv' := [(0, false, va_rf (some (A 17))), (2, false, .int v14)]) rfl ?_
    refine sp_less X (k' := 0) (n' := 0) (Nat.zero_le _) (Nat.zero_le _) ?_
    first | exact cut48 m44 (nI s2) I4 B4 ⟨us, hUS, Or.inr ⟨hok, rfl, F4, hx4⟩⟩ | exact cut48 m8 v14 I1 B1 ⟨us, hUS, Or.inl ⟨hrf, Fn⟩⟩
  · have hok : pu_ok R (m.aI (A 8)) d s2 us := by
      rcases hp14 with z | z
      · rw [hb19] at z
        rcases z with q | q | q
        · exact absurd q.2 (by decide)
        · exact absurd q.2.2 (by decide)
        · rcases q.2.2 with w | w
          · exact absurd rfl w.1
          · exact absurd w.2.2 (by decide)
      · exact z.1
    have hj : us.length ≤ 8 ∧ s2 < 60 := ⟨Nat.le_of_not_lt (fun z => (hok.2.2.1.z rfl).2.2 (Or.inl z)), hok.2.2.2⟩
    refine sp_aload_n X (pc := 22) (r := some (A 17)) dX11_path_22 rfl rfl ?_
    refine sp_getfield X (pc := 23) (c := 12) (i := 2) (t := 2) (a := (A 17)) (v := va_rf (some (A 2))) rfl (by first | assumption | omega) (by decide) rfl (congrArg va_rf (hS8.p 770 17 2 (by decide))) fl_SP_28 dX11_path_23 ?_
    refine sp_callV X (pc := 26) (mc := 0) (ms := 0) (b := (A 2)) (c := 0) (r := (some (A 2))) (As := []) (rest := []) (c_List_size l G _ x2) ok_List_size rfl x2 (by decide) rfl lk_SP_81 rfl rfl (Nat.zero_le _) (Nat.le_of_ble_eq_true rfl) (Nat.le_of_ble_eq_true rfl) (Nat.zero_le _) (Nat.zero_le _) dX11_path_26 (sp_kI fun v26 m26 hp26 => ?_)
    obtain ⟨hp26v, hp26⟩ := hp26; replace hp26 := (hp26).symm; subst hp26; replace hp26v := (hp26v).symm; subst hp26v
    rw [li28.2.2.1]
    refine sp_istore_n X (pc := 29) (lv' := [(2, false, .int (nI s2)), (1, false, va_rf (some L)), (0, false, va_rf (some (A 17)))]) dX11_path_29 rfl (by decide) rfl ?_
    refine sp_aload_n X (pc := 30) (r := some (A 17)) dX11_path_30 rfl rfl ?_
    refine sp_getfield X (pc := 31) (c := 12) (i := 2) (t := 2) (a := (A 17)) (v := va_rf (some (A 2))) rfl (by first | assumption | omega) (by decide) rfl (congrArg va_rf (hS8.p 770 17 2 (by decide))) fl_SP_28 dX11_path_31 ?_
    refine sp_new X (pc := 34) (c := 7) (N := 4) (by decide) rfl cl_SP_85 in_7 it_7 (by decide) (by decide) dX11_path_34 ?_
    refine sp_ghost X m8.nx 8 (by rw [sp_newO_ty, if_pos rfl]; decide) (by rw [sp_newO_ty, if_pos rfl]; decide) ?_
    obtain ⟨m2, hm2⟩ : ∃ m2, m2 = (m8.newO 7).gh m8.nx 8 := ⟨_, rfl⟩
    rw [← hm2]
    have JJ : sp_J G P (sp_E1 sp_E0 m8.nx) m2 := by rw [hm2]; exact J1.newO w1 7 8
    have ww : sp_wf m2 := by rw [hm2]; exact w1.newO 7
    have fxx : sp_fx m8 m2 sp_w0 := by rw [hm2]; exact ((sp_fx.refl m8 sp_w0).newO 7).gh (Nat.le_refl _)
    have oo : m2.ty m8.nx = 8 := by
      rw [hm2]
      show (m8.newO 7).ty m8.nx = 8
      rw [sp_newO_ty, if_pos rfl]
    have lno : m2.ln m8.nx = 8 := by rw [hm2, sp_gh_ln, if_pos rfl]
    clear hm2
    have liL : sp_li G m2 L ed us.length := fxx.li w1 li1 (fun z => z) (fun z => z)
    have rlL : m2.ln L = 105 := by rw [fxx.ln w1 li1.1 (by decide)]; exact rl1
    have hO2 := fxx.nob w1 (fx1.nob hI.wf hO)
    refine sp_dup X (pc := 37) dX11_path_37 (sp_cat_rf _) ?_
    refine sp_iload_n X (pc := 38) (x := nI s2) dX11_path_38 rfl rfl ?_
    refine sp_iconst X (pc := 39) (v := 0) dX11_path_39 (by decide) ?_
    refine sp_aload_n X (pc := 40) (r := (some L)) dX11_path_40 rfl rfl ?_
    refine sp_callI X (pc := 41) (mc := 3) (ms := 2) (b := m8.nx) (r := some m8.nx) (As := [.int (nI s2), .int 0, va_rf (some L)]) (rest := [va_rf (some m8.nx), va_rf (some (A 2))]) (c_Parted_init l G _ (P := P) (E := sp_E0) (m0 := m8) (o := m8.nx) (L := L) (ed := ed) (s := us.length) hG hO2 JJ ww (fun a ha => Nat.lt_of_lt_of_le (I1.2.2.2 a ha) fxx.1) fxx (Nat.le_refl _) oo (Or.inl rfl) liL rlL (by rw [lno]; exact hj.1) (by rw [lno]; decide)) ok_Parted_init rfl rfl lk_SP_87 rfl rfl (by simp [sp_cat_rf, sp_cat_i, sp_cat_l]) (Nat.le_of_ble_eq_true rfl) (Nat.le_of_ble_eq_true rfl) (by decide) (by decide) dX11_path_41 (sp_kV fun m41 hp41 => ?_)
    obtain ⟨J3, w3, fx3, to3, lo3, -, n448, -, n450, n451⟩ := hp41
    have I3 := I1.w0 J3 w3 fx3
    have li23 : sp_li G m41 (A 2) e2 s2 := fx3.li w1 li28 (fun z => z) (fun z => z)
    have hlo2 : m41.ln e2 ≤ 130 := (I3.lo sp_ix2 li23).1
    have hcl := sp_cap_le (m41.ln e2)
    have led : ed < m8.nx := w1 ed (by have := li1.2.2.2.2.2; omega)
    have le2 : e2 < m.nx := hI.wf e2 (by have := li2.2.2.2.2.2; omega)
    have hv3 : sp_pv G m41 m8.nx s2 us := by
      refine ⟨to3, n448, n451, L, ed, n450, fx3.li w1 li1 (fun z => z) (fun z => z), fun k hk => ?_⟩
      obtain ⟨nm, q1, q2⟩ := hnm8 k hk
      exact ⟨nm, by rw [(fx3.2.2.2.2.2 ed led (fun z => z)).2.2]; exact q1, q2.fx w1 fx3 (fun z => z) (fun z => z) (fun a z => z.elim)⟩
    have e23 : m41.aR e2 = m.aR e2 := by rw [(fx3.2.2.2.2.2 e2 (Nat.lt_of_lt_of_le le2 fx1.1) (fun z => z)).2.2, (fx1.2.2.2.2.2 e2 le2 (fun z => z)).2.2]
    refine sp_callV X (pc := 44) (mc := (if s2 < m41.ln e2 then 0 else 1)) (ms := (if s2 < m41.ln e2 then 0 else sp_cap (m41.ln e2))) (b := (A 2)) (c := 0) (r := (some (A 2))) (As := [va_rf (some m8.nx)]) (rest := []) (c_List_add1 l G _ (o := A 2) (ed := e2) (s := s2) (b := m8.nx) hG li23 w3 (by omega) (I3.J.elob li23 (sp_e0 _)) ⟨7, to3, by decide, ca_7⟩) ok_List_add1 rfl li23.1 (by decide) rfl lk_SP_90 rfl rfl (Nat.zero_le _) (Nat.le_of_ble_eq_true rfl) (Nat.le_of_ble_eq_true rfl) (by split <;> omega) (by split <;> omega) dX11_path_44 (sp_kI fun v44 m44 hp44 => ?_)
    obtain ⟨hv44, had⟩ := hp44
    have I4 := I3.add sp_ix2 li23 had (by show s2 < 60; exact hj.2) ⟨to3, fun _ => by rw [lo3, lno]; exact Nat.le_refl _⟩ (fun z => absurd z (by decide))
    have F4 : sp_F m m44 A sp_T2 := (F1.w0 fx3).ad J3 li23 had sp_ix2 rfl
    have B4 : sp_bn G m44 A := F4.bn hI hb (by unfold sp_T2; decide) (by unfold sp_T2; decide)
    have hv4 : sp_pv G m44 m8.nx s2 us := hv3.ad I3 li23 had sp_ix2
    have hx4 : ∃ e2' pa, sp_li G m44 (A 2) e2' (s2 + 1) ∧ (∀ j, j < s2 → m44.aR e2' j = m.aR e2 j) ∧ m44.aR e2' s2 = some pa ∧ sp_pv G m44 pa s2 us := by
      obtain ⟨ed', q1, q2, q3, -⟩ := had
      exact ⟨ed', m8.nx, q1, fun j hj => by rw [q2 j hj, e23], q3, hv4⟩
    refine sp_pop X (pc := 47) dX11_path_47 rfl ?_
    refine sp_pick X [2, 0] (lv' := [(0, false, va_rf (some (A 17))), (2, false, .int (nI s2))]) rfl ?_
    refine sp_less X (k' := 0) (n' := 0) (Nat.zero_le _) (Nat.zero_le _) ?_
    first | exact cut48 m44 (nI s2) I4 B4 ⟨us, hUS, Or.inr ⟨hok, rfl, F4, hx4⟩⟩ | exact cut48 m8 v14 I1 B1 ⟨us, hUS, Or.inl ⟨hrf, Fn⟩⟩
set_option maxHeartbeats 1000000 in
set_option maxRecDepth 20000 in
theorem c_SP_target (l : Launch) (G : sp_G) (m : sp_M) {P : Nat → Prop} {A : Nat → Nat} (hG : sp_GS G) (hI : sp_I G P A m) {d e3 s3 : Nat} (hO : sp_nob G m) (hb : sp_bn G m A) (hd : sp_dr m (A 1) (A 8) d) (li3 : sp_li G m (A 3) e3 s3) {R : Int32} (hR : sp_cR m A R) : sp_C l G M_SP_target 650 65400 [.ref (A 17)] m (sp_oI fun v m' => sp_I G P A m' ∧ sp_bn G m' A ∧ ∃ m1, m' = m1.pI 129 (A 1) 0 ∧ sp_I G P A m1 ∧ ((1 ≤ d ∧ d ≤ 40 ∧ s3 < 40 ∧ v = nI s3 ∧ sp_F m m1 A sp_T3 ∧ ∃ us e3' pa, sp_us (m.aI (A 8)) R d us ∧ sp_li G m1 (A 3) e3' (s3 + 1) ∧ (∀ j, j < s3 → m1.aR e3' j = m.aR e3 j) ∧ m1.aR e3' s3 = some pa ∧ sp_pv G m1 pa s3 us ∧ sp_bo (m1.fI 449 pa) (¬ sp_pb R (m.aI (A 8) 0) = 0)) ∨ ((d < 1 ∨ 40 < d) ∧ v = -1 ∧ sp_F m m1 A sp_Tn) ∨ (1 ≤ d ∧ d ≤ 40 ∧ ¬ s3 < 40 ∧ v = -6 ∧ sp_F m m1 A sp_Tn))) := by
  refine sp_enter (lv0 := [(0, false, va_rf (some (A 17)))]) "SafePaths" false rfl (by decide) (fun h => by cases h) (Nat.le_of_ble_eq_true rfl) rfl ?_
  intro w X
  have hS := hI.S
  have t0 := hS.k 0 9 (by decide)
  have t1 := hS.k 1 3 (by decide)
  have t3 := hS.k 3 1 (by decide)
  have t17 := hS.k 17 13 (by decide)
  have hz := hI.wf.z
  have cut55 : ∀ (m3 : sp_M) (x : Int32), sp_I G P A m3 → sp_bn G m3 A → ((1 ≤ d ∧ d ≤ 40 ∧ s3 < 40 ∧ x = nI s3 ∧ sp_F m m3 A sp_T3 ∧ ∃ us e3' pa, sp_us (m.aI (A 8)) R d us ∧ sp_li G m3 (A 3) e3' (s3 + 1) ∧ (∀ j, j < s3 → m3.aR e3' j = m.aR e3 j) ∧ m3.aR e3' s3 = some pa ∧ sp_pv G m3 pa s3 us ∧ sp_bo (m3.fI 449 pa) (¬ sp_pb R (m.aI (A 8) 0) = 0)) ∨ ((d < 1 ∨ 40 < d) ∧ x = -1 ∧ sp_F m m3 A sp_Tn) ∨ (1 ≤ d ∧ d ≤ 40 ∧ ¬ s3 < 40 ∧ x = -6 ∧ sp_F m m3 A sp_Tn)) → w 0 0 m3 55 [(0, false, va_rf (some (A 17))), (1, false, .int x)] [] := by
    intro m3 x c1 c2 c4
    have hS3 := c1.S
    have y1 := hS3.k 1 3 (by decide)
    have y17 := hS3.k 17 13 (by decide)
    refine sp_aload_n X (pc := 55) (r := some (A 17)) dX11_target_55 rfl rfl ?_
    refine sp_getfield X (pc := 56) (c := 12) (i := 1) (t := 2) (a := (A 17)) (v := va_rf (some (A 1))) rfl (by first | assumption | omega) (by decide) rfl (congrArg va_rf (hS3.p 769 17 1 (by decide))) fl_SP_21 dX11_target_56 ?_
    refine sp_callV X (pc := 59) (mc := 0) (ms := 0) (b := (A 1)) (c := 2) (r := (some (A 1))) (As := []) (rest := []) (c_Draft_clear l G _ y1) ok_Draft_clear rfl y1 (by decide) rfl lk_SP_94 rfl rfl (Nat.zero_le _) (Nat.le_of_ble_eq_true rfl) (Nat.le_of_ble_eq_true rfl) (Nat.zero_le _) (Nat.zero_le _) dX11_target_59 (sp_kV fun m59 hp59 => ?_)
    refine sp_iload_n X (pc := 62) (x := x) dX11_target_62 rfl rfl ?_
    refine sp_ireturn X (pc := 63) dX11_target_63 rfl ⟨_, rfl, ?_⟩
    rw [hp59]
    exact ⟨c1.len (d := 0) (Nat.zero_le _), c2.pI (by decide), m3, rfl, c1, c4⟩
  refine sp_aload_n X (pc := 0) (r := some (A 17)) dX11_target_0 rfl rfl ?_
  refine sp_callV X (pc := 1) (mc := 0) (ms := 0) (b := (A 17)) (c := 12) (r := some (A 17)) (As := []) (rest := []) (c_SP_judgeAsTarget l G _ hG hI hd li3) ok_SP_judgeAsTarget rfl t17 (by decide) rfl lk_SP_117 rfl rfl (Nat.zero_le _) (Nat.le_of_ble_eq_true rfl) (Nat.le_of_ble_eq_true rfl) (Nat.zero_le _) (Nat.zero_le _) dX11_target_1 (sp_kI fun v1 m1 hp1 => ?_)
  obtain ⟨hp1, hp1m⟩ := hp1; replace hp1m := (hp1m).symm; subst hp1m
  refine sp_istore_n X (pc := 4) (lv' := [(1, false, .int v1), (0, false, va_rf (some (A 17)))]) dX11_target_4 rfl (by decide) rfl ?_
  refine sp_iload_n X (pc := 5) (x := v1) dX11_target_5 rfl rfl ?_
  refine sp_if_ne X (pc := 6) (tgt := 55) dX11_target_6 (by decide) (fun hb6 => ?_) (fun hb6 => ?_)
  · refine sp_pick X [1, 0] (lv' := [(0, false, va_rf (some (A 17))), (1, false, .int v1)]) rfl ?_
    refine sp_less X (k' := 0) (n' := 0) (Nat.zero_le _) (Nat.zero_le _) ?_
    first
      | exact cut55 m51 (nI s3) I4 B4 (Or.inl ⟨hj.1, hj.2.1, hj.2.2, rfl, F4, Z4⟩)
      | exact cut55 m v1 hI hb (by
          rcases hp1 with z | z | z
          · exact absurd z.1 hb6
          · exact Or.inr (Or.inl ⟨z.2, z.1, sp_F.refl m A sp_Tn⟩)
          · exact Or.inr (Or.inr ⟨z.2.1, z.2.2.1, z.2.2.2, z.1, sp_F.refl m A sp_Tn⟩))
  · have hj : 1 ≤ d ∧ d ≤ 40 ∧ s3 < 40 := by
      rcases hp1 with z | z | z
      · exact z.2
      · rw [z.1] at hb6; exact absurd hb6 (by decide)
      · rw [z.1] at hb6; exact absurd hb6 (by decide)
    refine sp_aload_n X (pc := 9) (r := some (A 17)) dX11_target_9 rfl rfl ?_
    refine sp_getfield X (pc := 10) (c := 12) (i := 3) (t := 2) (a := (A 17)) (v := va_rf (some (A 3))) rfl (by first | assumption | omega) (by decide) rfl (congrArg va_rf (hS.p 771 17 3 (by decide))) fl_SP_32 dX11_target_10 ?_
    refine sp_callV X (pc := 13) (mc := 0) (ms := 0) (b := (A 3)) (c := 0) (r := (some (A 3))) (As := []) (rest := []) (c_List_size l G _ t3) ok_List_size rfl t3 (by decide) rfl lk_SP_81 rfl rfl (Nat.zero_le _) (Nat.le_of_ble_eq_true rfl) (Nat.le_of_ble_eq_true rfl) (Nat.zero_le _) (Nat.zero_le _) dX11_target_13 (sp_kI fun v13 m13 hp13 => ?_)
    obtain ⟨hp13v, hp13⟩ := hp13; replace hp13 := (hp13).symm; subst hp13; replace hp13v := (hp13v).symm; subst hp13v
    rw [li3.2.2.1]
    refine sp_istore_n X (pc := 16) (lv' := [(1, false, .int (nI s3)), (0, false, va_rf (some (A 17)))]) dX11_target_16 rfl (by decide) rfl ?_
    refine sp_aload_n X (pc := 17) (r := some (A 17)) dX11_target_17 rfl rfl ?_
    refine sp_getfield X (pc := 18) (c := 12) (i := 3) (t := 2) (a := (A 17)) (v := va_rf (some (A 3))) rfl (by first | assumption | omega) (by decide) rfl (congrArg va_rf (hS.p 771 17 3 (by decide))) fl_SP_32 dX11_target_18 ?_
    refine sp_new X (pc := 21) (c := 7) (N := 4) (by decide) rfl cl_SP_85 in_7 it_7 (by decide) (by decide) dX11_target_21 ?_
    refine sp_ghost X m.nx 161 (by rw [sp_newO_ty, if_pos rfl]; decide) (by rw [sp_newO_ty, if_pos rfl]; decide) ?_
    obtain ⟨m2, hm2⟩ : ∃ m2, m2 = (m.newO 7).gh m.nx 161 := ⟨_, rfl⟩
    rw [← hm2]
    have JJ : sp_J G P (sp_E1 sp_E0 m.nx) m2 := by rw [hm2]; exact hI.J.newO hI.wf 7 161
    have ww : sp_wf m2 := by rw [hm2]; exact hI.wf.newO 7
    have fxx : sp_fx m m2 sp_w0 := by rw [hm2]; exact ((sp_fx.refl m sp_w0).newO 7).gh (Nat.le_refl _)
    have oo : m2.ty m.nx = 8 := by
      rw [hm2]
      show (m.newO 7).ty m.nx = 8
      rw [sp_newO_ty, if_pos rfl]
    have lno : m2.ln m.nx = 161 := by rw [hm2, sp_gh_ln, if_pos rfl]
    have nx2 : m2.nx = m.nx + 1 := by rw [hm2]; rfl
    clear hm2
    have hS2 : sp_S G m2 A := hS.fx hI.wf fxx (fun _ _ z => z.elim) (fun _ _ z => z.elim) (fun _ z => z.elim)
    have hd2 : sp_dr m2 (A 1) (A 8) d := fxx.dr hI.wf hd (fun z => z) (fun z => z)
    have hR2 : sp_cR m2 A R := hR.fx hI.wf t0 fxx (fun _ _ _ z => z)
    have ha82 : m2.aI (A 8) = m.aI (A 8) := (fxx.2.2.2.2.2 (A 8) (hI.lt 8 20 (by decide) (by decide)) (fun z => z)).1
    have x0 := hS2.k 0 9 (by decide)
    have x1 := hS2.k 1 3 (by decide)
    have x17 := hS2.k 17 13 (by decide)
    refine sp_dup X (pc := 24) dX11_target_24 (sp_cat_rf _) ?_
    refine sp_iload_n X (pc := 25) (x := nI s3) dX11_target_25 rfl rfl ?_
    refine sp_aload_n X (pc := 26) (r := some (A 17)) dX11_target_26 rfl rfl ?_
    refine sp_getfield X (pc := 27) (c := 12) (i := 1) (t := 2) (a := (A 17)) (v := va_rf (some (A 1))) rfl (by first | assumption | omega) (by decide) rfl (congrArg va_rf (hS2.p 769 17 1 (by decide))) fl_SP_21 dX11_target_27 ?_
    refine sp_aload_n X (pc := 30) (r := some (A 17)) dX11_target_30 rfl rfl ?_
    refine sp_getfield X (pc := 31) (c := 12) (i := 0) (t := 2) (a := (A 17)) (v := va_rf (some (A 0))) rfl (by first | assumption | omega) (by decide) rfl (congrArg va_rf (hS2.p 768 17 0 (by decide))) fl_SP_12 dX11_target_31 ?_
    refine sp_callV X (pc := 34) (mc := 0) (ms := 0) (b := (A 1)) (c := 2) (r := (some (A 1))) (As := [va_rf (some (A 0))]) (rest := [.int (nI s3), va_rf (some m.nx), va_rf (some m.nx), va_rf (some (A 3))]) (c_Draft_beginsWithDivider l G _ hd2 x0) ok_Draft_beginsWithDivider rfl x1 (by decide) rfl lk_SP_120 rfl rfl (by simp [sp_cat_rf, sp_cat_i, sp_cat_l]) (Nat.le_of_ble_eq_true rfl) (Nat.le_of_ble_eq_true rfl) (Nat.zero_le _) (Nat.zero_le _) dX11_target_34 (sp_kI fun v34 m34 hp34 => ?_)
    obtain ⟨hp34, hp34m⟩ := hp34; replace hp34m := (hp34m).symm; subst hp34m
    have hft : sp_bo v34 (¬ sp_pb R (m.aI (A 8) 0) = 0) := by
      rw [ha82] at hp34
      exact hp34.iff ⟨fun z => (hR2.dv _).mp z.2, fun z => ⟨by omega, (hR2.dv _).mpr z⟩⟩
    refine sp_aload_n X (pc := 37) (r := some (A 17)) dX11_target_37 rfl rfl ?_
    refine sp_getfield X (pc := 38) (c := 12) (i := 1) (t := 2) (a := (A 17)) (v := va_rf (some (A 1))) rfl (by first | assumption | omega) (by decide) rfl (congrArg va_rf (hS2.p 769 17 1 (by decide))) fl_SP_21 dX11_target_38 ?_
    refine sp_aload_n X (pc := 41) (r := some (A 17)) dX11_target_41 rfl rfl ?_
    refine sp_getfield X (pc := 42) (c := 12) (i := 0) (t := 2) (a := (A 17)) (v := va_rf (some (A 0))) rfl (by first | assumption | omega) (by decide) rfl (congrArg va_rf (hS2.p 768 17 0 (by decide))) fl_SP_12 dX11_target_42 ?_
    refine sp_callV X (pc := 45) (mc := 645) (ms := 65047) (b := (A 1)) (c := 2) (r := (some (A 1))) (As := [va_rf (some (A 0))]) (rest := [.int v34, .int (nI s3), va_rf (some m.nx), va_rf (some m.nx), va_rf (some (A 3))]) (c_Draft_cut l G _ (P := P) (E := sp_E1 sp_E0 m.nx) hG JJ ww (fun a ha => Nat.lt_of_lt_of_le (hI.2.2.2 a ha) fxx.1) (by rintro a (z | z); exact z.elim; omega) hd2 (by rintro (z | z); exact z; have := hI.lt 1 3 (by decide) (by decide); omega) x0 (R := R) hR2.dv) ok_Draft_cut rfl x1 (by decide) rfl lk_SP_73 rfl rfl (by simp [sp_cat_rf, sp_cat_i, sp_cat_l]) (Nat.le_of_ble_eq_true rfl) (Nat.le_of_ble_eq_true rfl) (by decide) (by decide) dX11_target_45 (sp_kR fun v45 m45 hp45 => ?_)
    obtain ⟨L, ed, s, hv45, hLn, J1, w1, fx1, li1, s161, rl1, np1, -, ls, hls, hTR, hnm⟩ := hp45
    subst hv45
    rw [ha82] at hTR hnm
    obtain ⟨us, hus⟩ : ∃ us, us = ls.map (sp_nme (m.aI (A 8))) := ⟨_, rfl⟩
    have hUS : sp_us (m.aI (A 8)) R d us := ⟨ls, hTR, hus⟩
    have hlen : us.length = s := by rw [hus, List.length_map]; exact hls
    subst hlen
    have hnm8 : ∀ k, k < us.length → ∃ nm, m45.aR ed k = some nm ∧ sp_nv m45 nm (us.getD k []) := fun k hk => by
      obtain ⟨nm, q1, q2⟩ := hnm k hk
      refine ⟨nm, q1, ?_⟩
      rw [hus, sp_mapD _ _ (by rw [hls]; exact hk)]
      exact q2
    have fx2 := fxx.tr0 fx1
    have o45 : m45.ty m.nx = 8 := fx1.ty ww oo (by decide)
    have l45 : m45.ln m.nx = 161 := by rw [fx1.ln ww oo (by decide)]; exact lno
    have hO2 := fx2.nob hI.wf hO
    refine sp_callI X (pc := 48) (mc := 3) (ms := 2) (b := m.nx) (r := some m.nx) (As := [.int (nI s3), .int v34, va_rf (some L)]) (rest := [va_rf (some m.nx), va_rf (some (A 3))]) (c_Parted_init l G _ (P := P) (E := sp_E0) (m0 := m) (o := m.nx) (L := L) (ed := ed) (s := us.length) hG hO2 J1 w1 (fun a ha => Nat.lt_of_lt_of_le (hI.2.2.2 a ha) fx2.1) fx2 (Nat.le_refl _) o45 hp34.b01 li1 rl1 (by rw [l45]; exact s161) (by rw [l45]; decide)) ok_Parted_init rfl rfl lk_SP_87 rfl rfl (by simp [sp_cat_rf, sp_cat_i, sp_cat_l]) (Nat.le_of_ble_eq_true rfl) (Nat.le_of_ble_eq_true rfl) (by decide) (by decide) dX11_target_48 (sp_kV fun m48 hp48 => ?_)
    obtain ⟨J3, w3, fx3, to3, lo3, fx4, n448, n449, n450, n451⟩ := hp48
    have I3 := hI.w0 J3 w3 fx3
    have tnL : L ≠ m.nx := fun z => by have := li1.1; rw [z] at this; omega
    have hv3 : sp_pv G m48 m.nx s3 us := by
      refine ⟨to3, n448, n451, L, ed, n450, fx4.li w1 li1 (fun z => tnL z) (fun z => tnL z), fun k hk => ?_⟩
      obtain ⟨nm, q1, q2⟩ := hnm8 k hk
      have hnn : nm ≠ m.nx := fun z => by
        obtain ⟨b, s, q, -⟩ := q2
        have := q.1
        rw [z] at this
        omega
      exact ⟨nm, by rw [(fx4.2.2.2.2.2 ed (w1 ed (by have := li1.2.2.2.2.2; omega)) (fun z => z)).2.2]; exact q1, q2.fx w1 fx4 (fun z => hnn z) (fun z => hnn z) (fun a z => z.elim)⟩
    have e33 : m48.aR e3 = m.aR e3 := (fx3.2.2.2.2.2 e3 (hI.wf e3 (by have := li3.2.2.2.2.2; omega)) (fun z => z)).2.2
    have li23 : sp_li G m48 (A 3) e3 s3 := fx3.li hI.wf li3 (fun z => z) (fun z => z)
    have hlo2 : m48.ln e3 ≤ 90 := (I3.lo sp_ix3 li23).1
    have hcl := sp_cap_le (m48.ln e3)
    refine sp_callV X (pc := 51) (mc := (if s3 < m48.ln e3 then 0 else 1)) (ms := (if s3 < m48.ln e3 then 0 else sp_cap (m48.ln e3))) (b := (A 3)) (c := 0) (r := (some (A 3))) (As := [va_rf (some m.nx)]) (rest := []) (c_List_add1 l G _ (o := A 3) (ed := e3) (s := s3) (b := m.nx) hG li23 w3 (by omega) (I3.J.elob li23 (sp_e0 _)) ⟨7, to3, by decide, ca_7⟩) ok_List_add1 rfl li23.1 (by decide) rfl lk_SP_90 rfl rfl (Nat.zero_le _) (Nat.le_of_ble_eq_true rfl) (Nat.le_of_ble_eq_true rfl) (by split <;> omega) (by split <;> omega) dX11_target_51 (sp_kI fun v51 m51 hp51 => ?_)
    obtain ⟨hv51, had⟩ := hp51
    have I4 := I3.add sp_ix3 li23 had (by show s3 < 40; exact hj.2.2) ⟨to3, fun z => absurd z (by decide)⟩ (fun z => absurd z (by decide))
    have F4 : sp_F m m51 A sp_T3 := ((sp_F.refl m A sp_T3).w0 fx3).ad J3 li23 had sp_ix3 rfl
    have B4 : sp_bn G m51 A := F4.bn hI hb (by unfold sp_T3; decide) (by unfold sp_T3; decide)
    have hv4 : sp_pv G m51 m.nx s3 us := hv3.ad I3 li23 had sp_ix3
    have f4 : m51.fI 449 m.nx = v34 := by
      obtain ⟨ed', q1, q2, q3, q4, q5, q6, -⟩ := had
      rw [q6 _ _ (by omega) (by omega)]
      exact n449
    have Z4 : ∃ us e3' pa, sp_us (m.aI (A 8)) R d us ∧ sp_li G m51 (A 3) e3' (s3 + 1) ∧ (∀ j, j < s3 → m51.aR e3' j = m.aR e3 j) ∧ m51.aR e3' s3 = some pa ∧ sp_pv G m51 pa s3 us ∧ sp_bo (m51.fI 449 pa) (¬ sp_pb R (m.aI (A 8) 0) = 0) := by
      obtain ⟨ed', q1, q2, q3, -⟩ := had
      exact ⟨us, ed', m.nx, hUS, q1, fun j hj => by rw [q2 j hj, e33], q3, hv4, by rw [f4]; exact hft⟩
    refine sp_pop X (pc := 54) dX11_target_54 rfl ?_
    refine sp_pick X [1, 0] (lv' := [(0, false, va_rf (some (A 17))), (1, false, .int (nI s3))]) rfl ?_
    refine sp_less X (k' := 0) (n' := 0) (Nat.zero_le _) (Nat.zero_le _) ?_
    first
      | exact cut55 m51 (nI s3) I4 B4 (Or.inl ⟨hj.1, hj.2.1, hj.2.2, rfl, F4, Z4⟩)
      | exact cut55 m v1 hI hb (by
          rcases hp1 with z | z | z
          · exact absurd z.1 hb6
          · exact Or.inr (Or.inl ⟨z.2, z.1, sp_F.refl m A sp_Tn⟩)
          · exact Or.inr (Or.inr ⟨z.2.1, z.2.2.1, z.2.2.2, z.1, sp_F.refl m A sp_Tn⟩))
