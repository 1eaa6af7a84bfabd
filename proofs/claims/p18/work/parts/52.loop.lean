theorem sp_NZ.W {m : sp_M} {B : Nat → Nat} {n b e p t c : Nat} {vq vm vl ls : Int32} {vs : Int64} {vA vE : Nat → Int64} {E : pu_E} {Z : pu_Z} (h : sp_NZ m B n b e vq vm vl vs vA vE E Z ls) (hX : pu_XZ p t e E Z c) : pu_W n b t Z.T := by
  rw [h.1.1.1, h.1.1.2]
  exact hX.1.1
theorem pu_W.len {n b t : Nat} {T : pu_N} (h : pu_W n b t T) : ∀ j, j < n → (T.w j).length ≤ 16 := fun j hj => by
  rcases Nat.eq_zero_or_pos j with q | q
  · rw [q, h.2.2.2.2.1]; decide
  · exact (h.2.2.2.2.2.1 j q hj).2
theorem pu_ent.k {kd pa wi : Int32} {sz : Int64} {p t : Nat} (h : pu_ent kd pa wi sz p t) : kd = 0 ∨ kd = 1 ∨ kd = 2 ∨ kd = 3 ∨ kd = 4 := by
  obtain ⟨i, hi, hx⟩ := sp_idx (s := 5) (by omega) h.1 (fun q => by
    have q1 := Int32.le_iff_toInt_le.mp q
    have q2 := Int32.le_iff_toInt_le.mp h.2.1
    have : (nI 5).toInt = 5 := by decide +kernel
    have : (4 : Int32).toInt = 4 := by decide +kernel
    omega)
  have : i = 0 ∨ i = 1 ∨ i = 2 ∨ i = 3 ∨ i = 4 := by omega
  rcases this with z | z | z | z | z
  · exact Or.inl (by rw [hx, z]; rfl)
  · exact Or.inr (Or.inl (by rw [hx, z]; rfl))
  · exact Or.inr (Or.inr (Or.inl (by rw [hx, z]; rfl)))
  · exact Or.inr (Or.inr (Or.inr (Or.inl (by rw [hx, z]; rfl))))
  · exact Or.inr (Or.inr (Or.inr (Or.inr (by rw [hx, z]; rfl))))
theorem sp_lcmp0 {a b : Int64} (h : a = b) : lg_cmp a b = 0 := by
  subst h
  unfold lg_cmp
  simp
set_option maxHeartbeats 4000000 in
set_option maxRecDepth 20000 in
theorem sp_law_loop {l : Launch} {G : sp_G} {w : sp_T} (X : sp_X l G "SafePathsLaw" cL_law 4 false ret room_1 none w) (hG : sp_GS G) {P : Nat → Prop} {A B : Nat → Nat} {sb N : Nat} {xs : Nat → Int32} (hRI : ∀ a, sp_mr B a → P a) (hA8 : ∀ k, (sp_mt k).1 ≠ 0 → B k ≠ A 8) (hN : N ≤ 385) (hend : ∀ k n m lv, w k n m 642 lv [.int 1]) {m : sp_M} {D : Nat → Int32} {R : Int32} {l0 l1 : Int64} {d n b p t e ws : Nat} {vq vm vl : Int32} {vs : Int64} {vA vE : Nat → Int64} {PT : Nat → List (List Int32)} {TT : Nat → List Int32} {E : pu_E} {Z : pu_Z} {ls : Int32} {j : Nat} (hC : sp_CI G P A m R D d p PT t TT e l0 l1) (hV : sp_V B m m D R l0 l1 d n b p t e n ws vq vm vl vs vA vE) (hS : sp_SI m sb N xs) (hM : (sp_mP m B p PT ∧ sp_mT m B t TT)) (hU : (sp_by D d ∧ pu_P p PT ∧ pu_Tt t TT)) (h4 : 4 ≤ n) (hK : sp_KZ G A m R PT TT e E Z ls) (hN2 : sp_NZ m B n b e vq vm vl vs vA vE E Z ls) (hX2 : pu_XZ p t e E Z j) (hj : j ≤ 64) : w (7000 * (64 - j)) (66000 * (64 - j)) m 28 [(0, false, va_rf (some sb)), (1, false, va_rf (some (A 17))), (2, false, va_rf (some (B 0))), (3, false, .int (nI (6 * j + 1)))] [] := by
  have loop28 : ∀ (dz : Nat) (m1 : sp_M) (D : Nat → Int32) (R : Int32) (l0 l1 : Int64) (d n b p t e ws : Nat) (vq vm vl : Int32) (vs : Int64) (vA vE : Nat → Int64) (PT : Nat → List (List Int32)) (TT : Nat → List Int32) (E : pu_E) (Z : pu_Z) (ls : Int32) (j : Nat), sp_CI G P A m1 R D d p PT t TT e l0 l1 → sp_V B m1 m1 D R l0 l1 d n b p t e n ws vq vm vl vs vA vE → sp_SI m1 sb N xs → (sp_mP m1 B p PT ∧ sp_mT m1 B t TT) → (sp_by D d ∧ pu_P p PT ∧ pu_Tt t TT) → 4 ≤ n → sp_KZ G A m1 R PT TT e E Z ls → sp_NZ m1 B n b e vq vm vl vs vA vE E Z ls → pu_XZ p t e E Z j → j ≤ 64 → 64 - j = dz → w (7000 * (64 - j)) (66000 * (64 - j)) m1 28 [(0, false, va_rf (some sb)), (1, false, va_rf (some (A 17))), (2, false, va_rf (some (B 0))), (3, false, .int (nI (6 * j + 1)))] [] := by
    intro dz
    induction dz using Nat.strongRecOn with
    | ind dz ih =>
      intro m1 D R l0 l1 d n b p t e ws vq vm vl vs vA vE PT TT E Z ls j hCm1 hVm1 hSm1 hMm1 hUm1 h4m1 hKm1 hNm1 hXm1 hj hdz
      refine sp_iload_n X (pc := 28) (x := nI (6 * j + 1)) dL_law_28 rfl rfl ?_
      refine sp_aload_n X (pc := 29) (r := some sb) dL_law_29 rfl rfl ?_
      refine sp_arraylength X (pc := 30) (a := sb) rfl (by have := hSm1.1; omega) dL_law_30 ?_
      rw [show (Int32.ofNat (m1.ln sb)) = (nI N) from (by rw [hSm1.2.1]; rfl)]
      refine sp_bipush X (pc := 31) (v := 6) dL_law_31 (by decide) ?_
      refine sp_isub X (pc := 33) dL_law_33 ?_
      refine sp_icmp_gt X (pc := 34) (tgt := 641) dL_law_34 (by decide) (fun hb34 => ?_) (fun hb34 => ?_)
      · refine sp_iconst X (pc := 641) (v := 1) dL_law_641 (by decide) ?_
        exact hend _ _ _ _
      · have h6 := sp_l6 hN hj hb34
        refine sp_aload_n X (pc := 37) (r := some sb) dL_law_37 rfl rfl ?_
        refine sp_iload_n X (pc := 38) (x := nI (6 * j + 1)) dL_law_38 rfl rfl ?_
        refine sp_iaload X (pc := 39) (a := sb) rfl (Or.inr hSm1.1) (sp_in (6 * j + 1) hSm1.2.1 (by omega) (by omega)) dL_law_39 ?_
        rw [show (m1.aI sb (nI (6 * j + 1)).toNatClampNeg) = (xs (6 * j + 1)) from (hSm1.rd (by omega))]
        refine sp_bipush X (pc := 40) (v := 31) dL_law_40 (by decide) ?_
        refine sp_iand X (pc := 42) dL_law_42 ?_
        rcases sp_sw ((xs (6 * j + 1)) &&& 31) 16 (by decide) with hsw43 | ⟨jsw, hjsw, hsw43⟩
        · refine sp_tableOut X (pc := 43) (tgt := 635) dL_law_43 (by omega) (by decide) ?_
          refine sp_iinc X (pc := 635) (v := (nI (6 * (j + 1) + 1))) (lv' := [(3, false, .int (nI (6 * (j + 1) + 1))), (0, false, va_rf (some sb)), (1, false, va_rf (some (A 17))), (2, false, va_rf (some (B 0)))]) dL_law_635 rfl ((by rw [show 6 * (j + 1) + 1 = 6 * j + 1 + 6 from by omega, ← nI_add (6 * j + 1) 6]; exact congrArg (nI (6 * j + 1) + ·) (by decide))) (by decide) rfl ?_
          refine sp_goto X (pc := 638) (tgt := 28) dL_law_638 (by decide) ?_
          refine sp_pick X [1, 2, 3, 0] (lv' := [(0, false, va_rf (some sb)), (1, false, va_rf (some (A 17))), (2, false, va_rf (some (B 0))), (3, false, .int (nI (6 * (j + 1) + 1)))]) rfl ?_
          refine sp_less X (k' := 7000 * (64 - (j + 1))) (n' := 66000 * (64 - (j + 1))) (by omega) (by omega) ?_
          exact ih _ (by omega) m1 _ _ _ _ _ _ _ _ _ _ _ _ _ _ _ _ _ _ _ _ _ _ (j + 1) hCm1 hVm1 hSm1 hMm1 hUm1 h4m1 hKm1 hNm1 (hXm1.up (by omega)) (by omega) rfl
        · have hsw2 : jsw = 0 ∨ jsw = 1 ∨ jsw = 2 ∨ jsw = 3 ∨ jsw = 4 ∨ jsw = 5 ∨ jsw = 6 ∨ jsw = 7 ∨ jsw = 8 ∨ jsw = 9 ∨ jsw = 10 ∨ jsw = 11 ∨ jsw = 12 ∨ jsw = 13 ∨ jsw = 14 ∨ jsw = 15 ∨ jsw = 16 := by omega
          rcases hsw2 with rfl | rfl | rfl | rfl | rfl | rfl | rfl | rfl | rfl | rfl | rfl | rfl | rfl | rfl | rfl | rfl | rfl
          · refine sp_tableIn X (pc := 43) (off := 81) (tgt := 124) dL_law_43 (by rw [hsw43]; decide) (by rw [hsw43]; decide) (by rw [hsw43]; decide) (by decide) ?_
            refine sp_aload_n X (pc := 124) (r := some (A 17)) dL_law_124 rfl rfl ?_
            refine sp_aload_n X (pc := 125) (r := some sb) dL_law_125 rfl rfl ?_
            refine sp_iload_n X (pc := 126) (x := nI (6 * j + 1)) dL_law_126 rfl rfl ?_
            refine sp_iconst X (pc := 127) (v := 1) dL_law_127 (by decide) ?_
            refine sp_iadd X (pc := 128) dL_law_128 ?_
            rw [show ((nI (6 * j + 1)) + 1) = (nI ((6 * j + 1) + 1)) from (nI_add (6 * j + 1) 1)]
            refine sp_iaload X (pc := 129) (a := sb) rfl (Or.inr hSm1.1) (sp_in ((6 * j + 1) + 1) hSm1.2.1 (by omega) (by omega)) dL_law_129 ?_
            rw [show (m1.aI sb (nI ((6 * j + 1) + 1)).toNatClampNeg) = (xs ((6 * j + 1) + 1)) from (hSm1.rd (by omega))]
            refine sp_callV X (pc := 130) (mc := 0) (ms := 0) (b := (A 17)) (c := 12) (r := some (A 17)) (As := [.int (xs ((6 * j + 1) + 1))]) (rest := []) (c_SP_put l G _ hG hCm1.1 hCm1.2.1 (hCm1.dr hVm1.hd)) ok_SP_put rfl (hCm1.1.S.k 17 13 (by decide)) (by decide) rfl lk_Law_21 rfl rfl (Nat.zero_le _) (Nat.le_of_ble_eq_true rfl) (Nat.le_of_ble_eq_true rfl) (Nat.zero_le _) (Nat.zero_le _) dL_law_130 (sp_kI fun v130 m130 hp130 => ?_)
            obtain ⟨d2, D2, hCm130, hVm130, hSm130, rkm130, hKm130, hc2⟩ : ∃ d2 D2, sp_CI G P A m130 R D2 d2 p PT t TT e l0 l1 ∧ sp_V B m130 m130 D R l0 l1 d n b p t e n ws vq vm vl vs vA vE ∧ sp_SI m130 sb N xs ∧ sp_rk B [] m1 m130 ∧ sp_KZ G A m130 R PT TT e E Z ls ∧ (((d = 160 ∨ (xs (6 * j + 1 + 1)) < 0 ∨ 255 < (xs (6 * j + 1 + 1))) ∧ v130 = -5 ∧ d2 = d ∧ D2 = D) ∨ (¬ (d = 160 ∨ (xs (6 * j + 1 + 1)) < 0 ∨ 255 < (xs (6 * j + 1 + 1))) ∧ v130 = nI (d + 1) ∧ d2 = d + 1 ∧ D2 = fun i => if i = d then (xs (6 * j + 1 + 1)) else D i)) := by
              rcases hp130 with ⟨q1, q2, q3⟩ | ⟨q1, q2, q3, q4⟩
              · subst q3
                exact ⟨d, D, hCm1, hVm1, hSm1, sp_rk.refl _ _ _, hKm1, Or.inl ⟨q1, q2, rfl, rfl⟩⟩
              · obtain ⟨a1, a2, a3, a4⟩ := sp_stepP hCm1 hVm1 hSm1 hA8 q3 q4
                exact ⟨d + 1, _, a1, a2, a3, a4, by rw [q4]; exact hKm1.put hCm1.1 hCm1.2.1, Or.inr ⟨q1, q2, rfl, rfl⟩⟩
            have hMm130 := sp_MC.rk hMm1 rkm130 (by decide) (by decide) (by decide) (by decide) (by decide)
            have hUm130 := hUm1
            have h4m130 := h4m1
            have hNm130 := hNm1.rk rkm130 (by decide)
            refine sp_pop X (pc := 133) dL_law_133 rfl ?_
            refine sp_aload_n X (pc := 134) (r := some (B 0)) dL_law_134 rfl rfl ?_
            refine sp_aload_n X (pc := 135) (r := some sb) dL_law_135 rfl rfl ?_
            refine sp_iload_n X (pc := 136) (x := nI (6 * j + 1)) dL_law_136 rfl rfl ?_
            refine sp_iconst X (pc := 137) (v := 1) dL_law_137 (by decide) ?_
            refine sp_iadd X (pc := 138) dL_law_138 ?_
            rw [show ((nI (6 * j + 1)) + 1) = (nI ((6 * j + 1) + 1)) from (nI_add (6 * j + 1) 1)]
            refine sp_iaload X (pc := 139) (a := sb) rfl (Or.inr hSm130.1) (sp_in ((6 * j + 1) + 1) hSm130.2.1 (by omega) (by omega)) dL_law_139 ?_
            rw [show (m130.aI sb (nI ((6 * j + 1) + 1)).toNatClampNeg) = (xs ((6 * j + 1) + 1)) from (hSm130.rd (by omega))]
            refine sp_callV X (pc := 140) (mc := 0) (ms := 0) (b := (B 0)) (c := 13) (r := some (B 0)) (As := [.int (xs ((6 * j + 1) + 1))]) (rest := []) (c_Mo_put l G _ hVm130) ok_Mo_put rfl hVm130.r.o (by decide) rfl lk_Law_25 rfl rfl (Nat.zero_le _) (Nat.le_of_ble_eq_true rfl) (Nat.le_of_ble_eq_true rfl) (Nat.zero_le _) (Nat.zero_le _) dL_law_140 (sp_kI fun v140 m140 hp140 => ?_)
            obtain ⟨hV2, hE140, hMm140, hU2, rkN⟩ : sp_V B m130 m140 D2 R l0 l1 d2 n b p t e n ws vq vm vl vs vA vE ∧ v130 = v140 ∧ (sp_mP m140 B p PT ∧ sp_mT m140 B t TT) ∧ sp_by D2 d2 ∧ sp_rk B [1] m130 m140 := by
              rcases hp140 with ⟨q1, q2, q3⟩ | ⟨q1, q2, q3, q4⟩
              · rcases hc2 with ⟨r1, r2, rfl, rfl⟩ | ⟨r1, -⟩
                · subst q3
                  exact ⟨hVm130, r2.trans q2.symm, hMm130, hUm130.1, sp_rk.refl _ _ _⟩
                · exact absurd q1 r1
              · rcases hc2 with ⟨r1, -⟩ | ⟨r1, r2, rfl, rfl⟩
                · exact absurd r1 q1
                · exact ⟨q3, r2.trans q2.symm, sp_MC.rk hMm130 q4 (by decide) (by decide) (by decide) (by decide) (by decide), hUm130.1.put (fun z => q1 (Or.inr z)), q4⟩
            obtain ⟨hCm140, hVm140, hSm140⟩ := sp_stepM hCm130 hVm130 hSm130 hRI hA8 hV2
            have hKm140 := sp_KZ.mf (fun a z => hVm130.row z) hKm130 hCm130.1 hV2.mf hRI
            have hUm140 : sp_by D2 d2 ∧ pu_P p PT ∧ pu_Tt t TT := ⟨hU2, hUm130.2⟩
            have h4m140 := h4m130
            have hNm140 := hNm130.rk rkN (by decide)
            have hXm140 := hXm1
            refine sp_pop X (pc := 143) dL_law_143 rfl ?_
            refine sp_goto X (pc := 144) (tgt := 635) dL_law_144 (by decide) ?_
            refine sp_iinc X (pc := 635) (v := (nI (6 * (j + 1) + 1))) (lv' := [(3, false, .int (nI (6 * (j + 1) + 1))), (0, false, va_rf (some sb)), (1, false, va_rf (some (A 17))), (2, false, va_rf (some (B 0)))]) dL_law_635 rfl ((by rw [show 6 * (j + 1) + 1 = 6 * j + 1 + 6 from by omega, ← nI_add (6 * j + 1) 6]; exact congrArg (nI (6 * j + 1) + ·) (by decide))) (by decide) rfl ?_
            refine sp_goto X (pc := 638) (tgt := 28) dL_law_638 (by decide) ?_
            refine sp_pick X [1, 2, 3, 0] (lv' := [(0, false, va_rf (some sb)), (1, false, va_rf (some (A 17))), (2, false, va_rf (some (B 0))), (3, false, .int (nI (6 * (j + 1) + 1)))]) rfl ?_
            refine sp_less X (k' := 7000 * (64 - (j + 1))) (n' := 66000 * (64 - (j + 1))) (by omega) (by omega) ?_
            exact ih _ (by omega) m140 _ _ _ _ _ _ _ _ _ _ _ _ _ _ _ _ _ _ _ _ _ _ (j + 1) hCm140 hVm140 hSm140 hMm140 hUm140 h4m140 hKm140 hNm140 (hXm140.up (by omega)) (by omega) rfl
          · refine sp_tableIn X (pc := 43) (off := 104) (tgt := 147) dL_law_43 (by rw [hsw43]; decide) (by rw [hsw43]; decide) (by rw [hsw43]; decide) (by decide) ?_
            refine sp_aload_n X (pc := 147) (r := some (A 17)) dL_law_147 rfl rfl ?_
            have hDD := hCm1.2.2.2.2.1.2
            have hcR := hCm1.2.2.2.2.2.2.1
            have hcP := hCm1.2.2.2.2.2.2.2.1
            have hcT := hCm1.2.2.2.2.2.2.2.2.1
            obtain ⟨e2, li2, -⟩ := id hcP
            have hby1 : sp_by (m1.aI (A 8)) d := fun j hj => by rw [hDD j hj]; exact hUm1.1 j hj
            refine sp_callV X (pc := 148) (mc := 650) (ms := 65400) (b := (A 17)) (c := 12) (r := some (A 17)) (As := []) (rest := []) (c_SP_path l G _ hG hCm1.1 hCm1.2.2.2.1 hCm1.2.2.1 (hCm1.dr hVm1.hd) li2 hcR hby1) ok_SP_path rfl (hCm1.1.S.k 17 13 (by decide)) (by decide) rfl lk_Law_26 rfl rfl (Nat.zero_le _) (Nat.le_of_ble_eq_true rfl) (Nat.le_of_ble_eq_true rfl) (by omega) (by omega) dL_law_148 (sp_kI fun v148 m148 hp148 => ?_)
            obtain ⟨hI2, hb2, mq, hm2, hIq, us, hus1, hc2⟩ := hp148
            have hus := hus1.congr hDD
            obtain ⟨p2, PT2, hCm148, hVm148, hSm148, rkm148, hKm148, hc3⟩ : ∃ p2 PT2, sp_CI G P A m148 R D 0 p2 PT2 t TT e l0 l1 ∧ sp_V B m148 m148 D R l0 l1 d n b p t e n ws vq vm vl vs vA vE ∧ sp_SI m148 sb N xs ∧ sp_rk B [] m1 m148 ∧ sp_KZ G A m148 R PT2 TT e E Z ls ∧ ((pu_ref v148 R D d p us ∧ p2 = p ∧ PT2 = PT) ∨ (pu_ok R D d p us ∧ v148 = nI p ∧ p2 = p + 1 ∧ PT2 = fun j => if j = p then us else PT j)) := by
              rcases hc2 with ⟨c1, c2⟩ | ⟨c1, c2, c3, e2', pa, c4, c5, c6, c7⟩
              · obtain ⟨a1, a2, a3, a4⟩ := sp_stepZ D hCm1 hVm1 hSm1 hI2 hb2 c2 hIq hm2 (hcP.gd hCm1.1 c2 (sp_gd.F hCm1.1 sp_Tn) (fun z => z)) (hcT.gd hCm1.1 c2 (sp_gd.F hCm1.1 sp_Tn) (fun z => z)) (fun z => z)
                exact ⟨p, PT, a1, a2, a3, a4, by rw [hm2]; exact (hKm1.F hCm1.1 c2 (fun z => z) ⟨fun z => z, fun z => z, fun z => z, fun z => z, fun z => z, fun z => z, fun z => z⟩ (fun z => z)).p129 hIq _ _, Or.inl ⟨c1.congr hDD, rfl, rfl⟩⟩
              · obtain ⟨a1, a2, a3, a4⟩ := sp_stepZ D hCm1 hVm1 hSm1 hI2 hb2 c3 hIq hm2 (hcP.more hCm1.1 c3 li2 c4 c5 c6 c7) (hcT.gd hCm1.1 c3 (sp_gd.F hCm1.1 sp_T2) (by unfold sp_T2; decide)) (by unfold sp_T2; decide)
                exact ⟨_, _, a1, a2, a3, a4, by rw [hm2]; exact ((hKm1.F hCm1.1 c3 (by unfold sp_T2; decide) ⟨by unfold sp_T2; decide, by unfold sp_T2; decide, by unfold sp_T2; decide, by unfold sp_T2; decide, by unfold sp_T2; decide, by unfold sp_T2; decide, by unfold sp_T2; decide⟩ (by unfold sp_T2; decide)).p129 hIq _ _).pt hXm1.2.1 (fun j hj => if_neg (by omega)), Or.inr ⟨c1.congr hDD, c2, rfl, rfl⟩⟩
            have hMm148 := sp_MC.rk hMm1 rkm148 (by decide) (by decide) (by decide) (by decide) (by decide)
            have hUm148 := hUm1
            have h4m148 := h4m1
            have hNm148 := hNm1.rk rkm148 (by decide)
            refine sp_pop X (pc := 151) dL_law_151 rfl ?_
            refine sp_aload_n X (pc := 152) (r := some (B 0)) dL_law_152 rfl rfl ?_
            refine sp_callV X (pc := 153) (mc := 0) (ms := 0) (b := (B 0)) (c := 13) (r := some (B 0)) (As := []) (rest := []) (c_Mo_path l G _ hVm148 hMm148.1 hUm148.2.1) ok_Mo_path rfl hVm148.r.o (by decide) rfl lk_Law_30 rfl rfl (Nat.zero_le _) (Nat.le_of_ble_eq_true rfl) (Nat.le_of_ble_eq_true rfl) (Nat.zero_le _) (Nat.zero_le _) dL_law_153 (sp_kI fun v153 m153 hp153 => ?_)
            obtain ⟨us2, hus2, hc4⟩ := hp153
            obtain rfl := hus.det hus2
            obtain ⟨w2, hV2, hE153, hMm153, hU2, rkN, hp2le⟩ : ∃ w2, sp_V B m148 m153 D R l0 l1 0 n b p2 t e n w2 vq vm vl vs vA vE ∧ v148 = v153 ∧ (sp_mP m153 B p2 PT2 ∧ sp_mT m153 B t TT) ∧ pu_P p2 PT2 ∧ sp_rk B [18, 19, 20, 34] m148 m153 ∧ p ≤ p2 := by
              rcases hc4 with ⟨q1, w2, q2, q3⟩ | ⟨q1, q2, w2, q3, q4, q5⟩
              · rcases hc3 with ⟨r1, rfl, rfl⟩ | ⟨r1, -⟩
                · exact ⟨w2, q2, r1.det q1, sp_MC.rk hMm148 q3 (by decide) (by decide) (by decide) (by decide) (by decide), hUm148.2.1, q3.mono (by decide), Nat.le_refl _⟩
                · exact absurd r1 q1.nok
              · rcases hc3 with ⟨r1, -⟩ | ⟨r1, r2, rfl, rfl⟩
                · exact absurd q1 r1.nok
                · exact ⟨w2, q3, r2.trans q2.symm, ⟨q5, hMm148.2.rk q4 (by decide) (by decide)⟩, hUm148.2.1.more hus q1, q4.mono (by decide), by omega⟩
            obtain ⟨hCm153, hVm153, hSm153⟩ := sp_stepM hCm148 hVm148 hSm148 hRI hA8 hV2
            have hKm153 := sp_KZ.mf (fun a z => hVm148.row z) hKm148 hCm148.1 hV2.mf hRI
            have hUm153 : sp_by D 0 ∧ pu_P p2 PT2 ∧ pu_Tt t TT := ⟨fun j z => absurd z (Nat.not_lt_zero _), hU2, hUm148.2.2⟩
            have h4m153 := h4m148
            have hNm153 := hNm148.rk rkN (by decide)
            have hXm153 : pu_XZ p2 t e E Z j := ⟨hXm1.1, hXm1.2.1.mono hp2le (Nat.le_refl _), hXm1.2.2⟩
            refine sp_pop X (pc := 156) dL_law_156 rfl ?_
            refine sp_goto X (pc := 157) (tgt := 635) dL_law_157 (by decide) ?_
            refine sp_iinc X (pc := 635) (v := (nI (6 * (j + 1) + 1))) (lv' := [(3, false, .int (nI (6 * (j + 1) + 1))), (0, false, va_rf (some sb)), (1, false, va_rf (some (A 17))), (2, false, va_rf (some (B 0)))]) dL_law_635 rfl ((by rw [show 6 * (j + 1) + 1 = 6 * j + 1 + 6 from by omega, ← nI_add (6 * j + 1) 6]; exact congrArg (nI (6 * j + 1) + ·) (by decide))) (by decide) rfl ?_
            refine sp_goto X (pc := 638) (tgt := 28) dL_law_638 (by decide) ?_
            refine sp_pick X [1, 2, 3, 0] (lv' := [(0, false, va_rf (some sb)), (1, false, va_rf (some (A 17))), (2, false, va_rf (some (B 0))), (3, false, .int (nI (6 * (j + 1) + 1)))]) rfl ?_
            refine sp_less X (k' := 7000 * (64 - (j + 1))) (n' := 66000 * (64 - (j + 1))) (by omega) (by omega) ?_
            exact ih _ (by omega) m153 _ _ _ _ _ _ _ _ _ _ _ _ _ _ _ _ _ _ _ _ _ _ (j + 1) hCm153 hVm153 hSm153 hMm153 hUm153 h4m153 hKm153 hNm153 (hXm153.up (by omega)) (by omega) rfl
          · refine sp_tableIn X (pc := 43) (off := 117) (tgt := 160) dL_law_43 (by rw [hsw43]; decide) (by rw [hsw43]; decide) (by rw [hsw43]; decide) (by decide) ?_
            refine sp_aload_n X (pc := 160) (r := some (A 17)) dL_law_160 rfl rfl ?_
            refine sp_aload_n X (pc := 161) (r := some sb) dL_law_161 rfl rfl ?_
            refine sp_iload_n X (pc := 162) (x := nI (6 * j + 1)) dL_law_162 rfl rfl ?_
            refine sp_iconst X (pc := 163) (v := 1) dL_law_163 (by decide) ?_
            refine sp_iadd X (pc := 164) dL_law_164 ?_
            rw [show ((nI (6 * j + 1)) + 1) = (nI ((6 * j + 1) + 1)) from (nI_add (6 * j + 1) 1)]
            refine sp_iaload X (pc := 165) (a := sb) rfl (Or.inr hSm1.1) (sp_in ((6 * j + 1) + 1) hSm1.2.1 (by omega) (by omega)) dL_law_165 ?_
            rw [show (m1.aI sb (nI ((6 * j + 1) + 1)).toNatClampNeg) = (xs ((6 * j + 1) + 1)) from (hSm1.rd (by omega))]
            refine sp_aload_n X (pc := 166) (r := some sb) dL_law_166 rfl rfl ?_
            refine sp_iload_n X (pc := 167) (x := nI (6 * j + 1)) dL_law_167 rfl rfl ?_
            refine sp_iconst X (pc := 168) (v := 2) dL_law_168 (by decide) ?_
            refine sp_iadd X (pc := 169) dL_law_169 ?_
            rw [show ((nI (6 * j + 1)) + 2) = (nI ((6 * j + 1) + 2)) from (nI_add (6 * j + 1) 2)]
            refine sp_iaload X (pc := 170) (a := sb) rfl (Or.inr hSm1.1) (sp_in ((6 * j + 1) + 2) hSm1.2.1 (by omega) (by omega)) dL_law_170 ?_
            rw [show (m1.aI sb (nI ((6 * j + 1) + 2)).toNatClampNeg) = (xs ((6 * j + 1) + 2)) from (hSm1.rd (by omega))]
            refine sp_aload_n X (pc := 171) (r := some sb) dL_law_171 rfl rfl ?_
            refine sp_iload_n X (pc := 172) (x := nI (6 * j + 1)) dL_law_172 rfl rfl ?_
            refine sp_iconst X (pc := 173) (v := 3) dL_law_173 (by decide) ?_
            refine sp_iadd X (pc := 174) dL_law_174 ?_
            rw [show ((nI (6 * j + 1)) + 3) = (nI ((6 * j + 1) + 3)) from (nI_add (6 * j + 1) 3)]
            refine sp_iaload X (pc := 175) (a := sb) rfl (Or.inr hSm1.1) (sp_in ((6 * j + 1) + 3) hSm1.2.1 (by omega) (by omega)) dL_law_175 ?_
            rw [show (m1.aI sb (nI ((6 * j + 1) + 3)).toNatClampNeg) = (xs ((6 * j + 1) + 3)) from (hSm1.rd (by omega))]
            refine sp_callV X (pc := 176) (mc := 0) (ms := 0) (b := (A 17)) (c := 12) (r := some (A 17)) (As := [.int (xs ((6 * j + 1) + 1)), .int (xs ((6 * j + 1) + 2)), .int (xs ((6 * j + 1) + 3))]) (rest := []) (c_SP_part l G _ hG hCm1.1 hCm1.2.2.2.2.2.2.2.1 hVm1.hp hUm1.2.1) ok_SP_part rfl (hCm1.1.S.k 17 13 (by decide)) (by decide) rfl lk_Law_31 rfl rfl (Nat.zero_le _) (Nat.le_of_ble_eq_true rfl) (Nat.le_of_ble_eq_true rfl) (Nat.zero_le _) (Nat.zero_le _) dL_law_176 (sp_kI fun v176 m176 hp176 => ?_)
            obtain ⟨hp176, hp176m⟩ := hp176; replace hp176m := (hp176m).symm; subst hp176m
            refine sp_pop X (pc := 179) dL_law_179 rfl ?_
            refine sp_aload_n X (pc := 180) (r := some (B 0)) dL_law_180 rfl rfl ?_
            refine sp_aload_n X (pc := 181) (r := some sb) dL_law_181 rfl rfl ?_
            refine sp_iload_n X (pc := 182) (x := nI (6 * j + 1)) dL_law_182 rfl rfl ?_
            refine sp_iconst X (pc := 183) (v := 1) dL_law_183 (by decide) ?_
            refine sp_iadd X (pc := 184) dL_law_184 ?_
            rw [show ((nI (6 * j + 1)) + 1) = (nI ((6 * j + 1) + 1)) from (nI_add (6 * j + 1) 1)]
            refine sp_iaload X (pc := 185) (a := sb) rfl (Or.inr hSm1.1) (sp_in ((6 * j + 1) + 1) hSm1.2.1 (by omega) (by omega)) dL_law_185 ?_
            rw [show (m1.aI sb (nI ((6 * j + 1) + 1)).toNatClampNeg) = (xs ((6 * j + 1) + 1)) from (hSm1.rd (by omega))]
            refine sp_aload_n X (pc := 186) (r := some sb) dL_law_186 rfl rfl ?_
            refine sp_iload_n X (pc := 187) (x := nI (6 * j + 1)) dL_law_187 rfl rfl ?_
            refine sp_iconst X (pc := 188) (v := 2) dL_law_188 (by decide) ?_
            refine sp_iadd X (pc := 189) dL_law_189 ?_
            rw [show ((nI (6 * j + 1)) + 2) = (nI ((6 * j + 1) + 2)) from (nI_add (6 * j + 1) 2)]
            refine sp_iaload X (pc := 190) (a := sb) rfl (Or.inr hSm1.1) (sp_in ((6 * j + 1) + 2) hSm1.2.1 (by omega) (by omega)) dL_law_190 ?_
            rw [show (m1.aI sb (nI ((6 * j + 1) + 2)).toNatClampNeg) = (xs ((6 * j + 1) + 2)) from (hSm1.rd (by omega))]
            refine sp_aload_n X (pc := 191) (r := some sb) dL_law_191 rfl rfl ?_
            refine sp_iload_n X (pc := 192) (x := nI (6 * j + 1)) dL_law_192 rfl rfl ?_
            refine sp_iconst X (pc := 193) (v := 3) dL_law_193 (by decide) ?_
            refine sp_iadd X (pc := 194) dL_law_194 ?_
            rw [show ((nI (6 * j + 1)) + 3) = (nI ((6 * j + 1) + 3)) from (nI_add (6 * j + 1) 3)]
            refine sp_iaload X (pc := 195) (a := sb) rfl (Or.inr hSm1.1) (sp_in ((6 * j + 1) + 3) hSm1.2.1 (by omega) (by omega)) dL_law_195 ?_
            rw [show (m1.aI sb (nI ((6 * j + 1) + 3)).toNatClampNeg) = (xs ((6 * j + 1) + 3)) from (hSm1.rd (by omega))]
            refine sp_callV X (pc := 196) (mc := 0) (ms := 0) (b := (B 0)) (c := 13) (r := some (B 0)) (As := [.int (xs ((6 * j + 1) + 1)), .int (xs ((6 * j + 1) + 2)), .int (xs ((6 * j + 1) + 3))]) (rest := []) (c_Mo_part l G _ hVm1 hMm1.1 hUm1.2.1) ok_Mo_part rfl hVm1.r.o (by decide) rfl lk_Law_35 rfl rfl (Nat.zero_le _) (Nat.le_of_ble_eq_true rfl) (Nat.le_of_ble_eq_true rfl) (Nat.zero_le _) (Nat.zero_le _) dL_law_196 (sp_kI fun v196 m196 hp196 => ?_)
            obtain ⟨hp196, hp196m⟩ := hp196; replace hp196m := (hp196m).symm; subst hp196m
            have hE196 := hp176.det hVm1.hp hUm1.2.1 hp196
            refine sp_pop X (pc := 199) dL_law_199 rfl ?_
            refine sp_goto X (pc := 200) (tgt := 635) dL_law_200 (by decide) ?_
            refine sp_iinc X (pc := 635) (v := (nI (6 * (j + 1) + 1))) (lv' := [(3, false, .int (nI (6 * (j + 1) + 1))), (0, false, va_rf (some sb)), (1, false, va_rf (some (A 17))), (2, false, va_rf (some (B 0)))]) dL_law_635 rfl ((by rw [show 6 * (j + 1) + 1 = 6 * j + 1 + 6 from by omega, ← nI_add (6 * j + 1) 6]; exact congrArg (nI (6 * j + 1) + ·) (by decide))) (by decide) rfl ?_
            refine sp_goto X (pc := 638) (tgt := 28) dL_law_638 (by decide) ?_
            refine sp_pick X [1, 2, 3, 0] (lv' := [(0, false, va_rf (some sb)), (1, false, va_rf (some (A 17))), (2, false, va_rf (some (B 0))), (3, false, .int (nI (6 * (j + 1) + 1)))]) rfl ?_
            refine sp_less X (k' := 7000 * (64 - (j + 1))) (n' := 66000 * (64 - (j + 1))) (by omega) (by omega) ?_
            exact ih _ (by omega) m1 _ _ _ _ _ _ _ _ _ _ _ _ _ _ _ _ _ _ _ _ _ _ (j + 1) hCm1 hVm1 hSm1 hMm1 hUm1 h4m1 hKm1 hNm1 (hXm1.up (by omega)) (by omega) rfl
          · refine sp_tableIn X (pc := 43) (off := 160) (tgt := 203) dL_law_43 (by rw [hsw43]; decide) (by rw [hsw43]; decide) (by rw [hsw43]; decide) (by decide) ?_
            refine sp_aload_n X (pc := 203) (r := some (A 17)) dL_law_203 rfl rfl ?_
            refine sp_aload_n X (pc := 204) (r := some sb) dL_law_204 rfl rfl ?_
            refine sp_iload_n X (pc := 205) (x := nI (6 * j + 1)) dL_law_205 rfl rfl ?_
            refine sp_iconst X (pc := 206) (v := 1) dL_law_206 (by decide) ?_
            refine sp_iadd X (pc := 207) dL_law_207 ?_
            rw [show ((nI (6 * j + 1)) + 1) = (nI ((6 * j + 1) + 1)) from (nI_add (6 * j + 1) 1)]
            refine sp_iaload X (pc := 208) (a := sb) rfl (Or.inr hSm1.1) (sp_in ((6 * j + 1) + 1) hSm1.2.1 (by omega) (by omega)) dL_law_208 ?_
            rw [show (m1.aI sb (nI ((6 * j + 1) + 1)).toNatClampNeg) = (xs ((6 * j + 1) + 1)) from (hSm1.rd (by omega))]
            refine sp_aload_n X (pc := 209) (r := some sb) dL_law_209 rfl rfl ?_
            refine sp_iload_n X (pc := 210) (x := nI (6 * j + 1)) dL_law_210 rfl rfl ?_
            refine sp_iconst X (pc := 211) (v := 2) dL_law_211 (by decide) ?_
            refine sp_iadd X (pc := 212) dL_law_212 ?_
            rw [show ((nI (6 * j + 1)) + 2) = (nI ((6 * j + 1) + 2)) from (nI_add (6 * j + 1) 2)]
            refine sp_iaload X (pc := 213) (a := sb) rfl (Or.inr hSm1.1) (sp_in ((6 * j + 1) + 2) hSm1.2.1 (by omega) (by omega)) dL_law_213 ?_
            rw [show (m1.aI sb (nI ((6 * j + 1) + 2)).toNatClampNeg) = (xs ((6 * j + 1) + 2)) from (hSm1.rd (by omega))]
            refine sp_callV X (pc := 214) (mc := 0) (ms := 0) (b := (A 17)) (c := 12) (r := some (A 17)) (As := [.int (xs ((6 * j + 1) + 1)), .int (xs ((6 * j + 1) + 2))]) (rest := []) (c_SP_meets l G _ hG hCm1.1 hCm1.2.2.2.2.2.2.2.1 hVm1.hp hCm1.2.2.2.2.2.2.1.2.1) ok_SP_meets rfl (hCm1.1.S.k 17 13 (by decide)) (by decide) rfl lk_Law_36 rfl rfl (Nat.zero_le _) (Nat.le_of_ble_eq_true rfl) (Nat.le_of_ble_eq_true rfl) (Nat.zero_le _) (Nat.zero_le _) dL_law_214 (sp_kI fun v214 m214 hp214 => ?_)
            obtain ⟨hp214, hp214m⟩ := hp214; replace hp214m := (hp214m).symm; subst hp214m
            refine sp_pop X (pc := 217) dL_law_217 rfl ?_
            refine sp_aload_n X (pc := 218) (r := some (B 0)) dL_law_218 rfl rfl ?_
            refine sp_aload_n X (pc := 219) (r := some sb) dL_law_219 rfl rfl ?_
            refine sp_iload_n X (pc := 220) (x := nI (6 * j + 1)) dL_law_220 rfl rfl ?_
            refine sp_iconst X (pc := 221) (v := 1) dL_law_221 (by decide) ?_
            refine sp_iadd X (pc := 222) dL_law_222 ?_
            rw [show ((nI (6 * j + 1)) + 1) = (nI ((6 * j + 1) + 1)) from (nI_add (6 * j + 1) 1)]
            refine sp_iaload X (pc := 223) (a := sb) rfl (Or.inr hSm1.1) (sp_in ((6 * j + 1) + 1) hSm1.2.1 (by omega) (by omega)) dL_law_223 ?_
            rw [show (m1.aI sb (nI ((6 * j + 1) + 1)).toNatClampNeg) = (xs ((6 * j + 1) + 1)) from (hSm1.rd (by omega))]
            refine sp_aload_n X (pc := 224) (r := some sb) dL_law_224 rfl rfl ?_
            refine sp_iload_n X (pc := 225) (x := nI (6 * j + 1)) dL_law_225 rfl rfl ?_
            refine sp_iconst X (pc := 226) (v := 2) dL_law_226 (by decide) ?_
            refine sp_iadd X (pc := 227) dL_law_227 ?_
            rw [show ((nI (6 * j + 1)) + 2) = (nI ((6 * j + 1) + 2)) from (nI_add (6 * j + 1) 2)]
            refine sp_iaload X (pc := 228) (a := sb) rfl (Or.inr hSm1.1) (sp_in ((6 * j + 1) + 2) hSm1.2.1 (by omega) (by omega)) dL_law_228 ?_
            rw [show (m1.aI sb (nI ((6 * j + 1) + 2)).toNatClampNeg) = (xs ((6 * j + 1) + 2)) from (hSm1.rd (by omega))]
            refine sp_callV X (pc := 229) (mc := 0) (ms := 0) (b := (B 0)) (c := 13) (r := some (B 0)) (As := [.int (xs ((6 * j + 1) + 1)), .int (xs ((6 * j + 1) + 2))]) (rest := []) (c_Mo_meets l G _ hVm1 hMm1.1 hUm1.2.1) ok_Mo_meets rfl hVm1.r.o (by decide) rfl lk_Law_40 rfl rfl (Nat.zero_le _) (Nat.le_of_ble_eq_true rfl) (Nat.le_of_ble_eq_true rfl) (Nat.zero_le _) (Nat.zero_le _) dL_law_229 (sp_kI fun v229 m229 hp229 => ?_)
            obtain ⟨hp229, hp229m⟩ := hp229; replace hp229m := (hp229m).symm; subst hp229m
            have hE229 := hp214.det hVm1.hp hp229
            refine sp_pop X (pc := 232) dL_law_232 rfl ?_
            refine sp_goto X (pc := 233) (tgt := 635) dL_law_233 (by decide) ?_
            refine sp_iinc X (pc := 635) (v := (nI (6 * (j + 1) + 1))) (lv' := [(3, false, .int (nI (6 * (j + 1) + 1))), (0, false, va_rf (some sb)), (1, false, va_rf (some (A 17))), (2, false, va_rf (some (B 0)))]) dL_law_635 rfl ((by rw [show 6 * (j + 1) + 1 = 6 * j + 1 + 6 from by omega, ← nI_add (6 * j + 1) 6]; exact congrArg (nI (6 * j + 1) + ·) (by decide))) (by decide) rfl ?_
            refine sp_goto X (pc := 638) (tgt := 28) dL_law_638 (by decide) ?_
            refine sp_pick X [1, 2, 3, 0] (lv' := [(0, false, va_rf (some sb)), (1, false, va_rf (some (A 17))), (2, false, va_rf (some (B 0))), (3, false, .int (nI (6 * (j + 1) + 1)))]) rfl ?_
            refine sp_less X (k' := 7000 * (64 - (j + 1))) (n' := 66000 * (64 - (j + 1))) (by omega) (by omega) ?_
            exact ih _ (by omega) m1 _ _ _ _ _ _ _ _ _ _ _ _ _ _ _ _ _ _ _ _ _ _ (j + 1) hCm1 hVm1 hSm1 hMm1 hUm1 h4m1 hKm1 hNm1 (hXm1.up (by omega)) (by omega) rfl
          · refine sp_tableIn X (pc := 43) (off := 193) (tgt := 236) dL_law_43 (by rw [hsw43]; decide) (by rw [hsw43]; decide) (by rw [hsw43]; decide) (by decide) ?_
            refine sp_aload_n X (pc := 236) (r := some (A 17)) dL_law_236 rfl rfl ?_
            have hDD := hCm1.2.2.2.2.1.2
            have hcR := hCm1.2.2.2.2.2.2.1
            have hcP := hCm1.2.2.2.2.2.2.2.1
            have hcT := hCm1.2.2.2.2.2.2.2.2.1
            obtain ⟨e3, li3, -⟩ := id hcT
            refine sp_callV X (pc := 237) (mc := 650) (ms := 65400) (b := (A 17)) (c := 12) (r := some (A 17)) (As := []) (rest := []) (c_SP_target l G _ hG hCm1.1 hCm1.2.2.2.1 hCm1.2.2.1 (hCm1.dr hVm1.hd) li3 hcR) ok_SP_target rfl (hCm1.1.S.k 17 13 (by decide)) (by decide) rfl lk_Law_41 rfl rfl (Nat.zero_le _) (Nat.le_of_ble_eq_true rfl) (Nat.le_of_ble_eq_true rfl) (by omega) (by omega) dL_law_237 (sp_kI fun v237 m237 hp237 => ?_)
            obtain ⟨hI2, hb2, mq, hm2, hIq, hc2⟩ := hp237
            obtain ⟨t2, TT2, hCm237, hVm237, hSm237, rkm237, hKm237, hc3⟩ : ∃ t2 TT2, sp_CI G P A m237 R D 0 p PT t2 TT2 e l0 l1 ∧ sp_V B m237 m237 D R l0 l1 d n b p t e n ws vq vm vl vs vA vE ∧ sp_SI m237 sb N xs ∧ sp_rk B [] m1 m237 ∧ sp_KZ G A m237 R PT TT2 e E Z ls ∧ ((1 ≤ d ∧ d ≤ 40 ∧ t < 40 ∧ v237 = nI t ∧ t2 = t + 1 ∧ TT2 = fun j => if j = t then sp_seg D 0 d else TT j) ∨ ((d < 1 ∨ 40 < d) ∧ v237 = -1 ∧ t2 = t ∧ TT2 = TT) ∨ (1 ≤ d ∧ d ≤ 40 ∧ ¬ t < 40 ∧ v237 = -6 ∧ t2 = t ∧ TT2 = TT)) := by
              rcases hc2 with ⟨q1, q2, q3, q4, c3, us, e3', pa, c4, c5, c6, c7, c8, c9⟩ | ⟨q1, q4, c2⟩ | ⟨q1, q2, q3, q4, c2⟩
              · have hu9 : sp_us (fun i => (sp_seg D 0 d).getD i 0) R (sp_seg D 0 d).length us := by
                  rw [sp_seg_len]
                  exact (c4.congr hDD).congr (sp_seg_fun D d)
                have hb9 : sp_bo (mq.fI 449 pa) (¬ sp_pb R ((sp_seg D 0 d).getD 0 0) = 0) := by
                  have h00 : (sp_seg D 0 d).getD 0 0 = D 0 := sp_seg_get D 0 d (i := 0) (by omega)
                  rw [h00, ← hDD 0 (by omega)]
                  exact c9
                obtain ⟨a1, a2, a3, a4⟩ := sp_stepZ D hCm1 hVm1 hSm1 hI2 hb2 c3 hIq hm2 (hcP.gd hCm1.1 c3 (sp_gd.F hCm1.1 sp_T3) (by unfold sp_T3; decide)) (hcT.more hCm1.1 c3 li3 c5 c6 c7 c8 hu9 hb9) (by unfold sp_T3; decide)
                exact ⟨_, _, a1, a2, a3, a4, by rw [hm2]; exact ((hKm1.F hCm1.1 c3 (by unfold sp_T3; decide) ⟨by unfold sp_T3; decide, by unfold sp_T3; decide, by unfold sp_T3; decide, by unfold sp_T3; decide, by unfold sp_T3; decide, by unfold sp_T3; decide, by unfold sp_T3; decide⟩ (by unfold sp_T3; decide)).p129 hIq _ _).tt hXm1.2.1 hXm1.1 (fun j hj => if_neg (by omega)), Or.inl ⟨q1, q2, q3, q4, rfl, rfl⟩⟩
              · obtain ⟨a1, a2, a3, a4⟩ := sp_stepZ D hCm1 hVm1 hSm1 hI2 hb2 c2 hIq hm2 (hcP.gd hCm1.1 c2 (sp_gd.F hCm1.1 sp_Tn) (fun z => z)) (hcT.gd hCm1.1 c2 (sp_gd.F hCm1.1 sp_Tn) (fun z => z)) (fun z => z)
                exact ⟨t, TT, a1, a2, a3, a4, by rw [hm2]; exact (hKm1.F hCm1.1 c2 (fun z => z) ⟨fun z => z, fun z => z, fun z => z, fun z => z, fun z => z, fun z => z, fun z => z⟩ (fun z => z)).p129 hIq _ _, Or.inr (Or.inl ⟨q1, q4, rfl, rfl⟩)⟩
              · obtain ⟨a1, a2, a3, a4⟩ := sp_stepZ D hCm1 hVm1 hSm1 hI2 hb2 c2 hIq hm2 (hcP.gd hCm1.1 c2 (sp_gd.F hCm1.1 sp_Tn) (fun z => z)) (hcT.gd hCm1.1 c2 (sp_gd.F hCm1.1 sp_Tn) (fun z => z)) (fun z => z)
                exact ⟨t, TT, a1, a2, a3, a4, by rw [hm2]; exact (hKm1.F hCm1.1 c2 (fun z => z) ⟨fun z => z, fun z => z, fun z => z, fun z => z, fun z => z, fun z => z, fun z => z⟩ (fun z => z)).p129 hIq _ _, Or.inr (Or.inr ⟨q1, q2, q3, q4, rfl, rfl⟩)⟩
            have hMm237 := sp_MC.rk hMm1 rkm237 (by decide) (by decide) (by decide) (by decide) (by decide)
            have hUm237 := hUm1
            have h4m237 := h4m1
            have hNm237 := hNm1.rk rkm237 (by decide)
            refine sp_pop X (pc := 240) dL_law_240 rfl ?_
            refine sp_aload_n X (pc := 241) (r := some (B 0)) dL_law_241 rfl rfl ?_
            refine sp_callV X (pc := 242) (mc := 0) (ms := 0) (b := (B 0)) (c := 13) (r := some (B 0)) (As := []) (rest := []) (c_Mo_target l G _ hVm237 hMm237.2 hUm237.2.2) ok_Mo_target rfl hVm237.r.o (by decide) rfl lk_Law_44 rfl rfl (Nat.zero_le _) (Nat.le_of_ble_eq_true rfl) (Nat.le_of_ble_eq_true rfl) (Nat.zero_le _) (Nat.zero_le _) dL_law_242 (sp_kI fun v242 m242 hp242 => ?_)
            obtain ⟨hV2, hE242, hMm242, hU2, rkN, ht2le⟩ : sp_V B m237 m242 D R l0 l1 0 n b p t2 e n ws vq vm vl vs vA vE ∧ v237 = v242 ∧ (sp_mP m242 B p PT ∧ sp_mT m242 B t2 TT2) ∧ pu_Tt t2 TT2 ∧ sp_rk B [22, 23] m237 m242 ∧ t ≤ t2 := by
              rcases hp242 with ⟨q1, q2, q3, q4, q5, q6, q7⟩ | ⟨q1, q4, q5, q6⟩ | ⟨q1, q2, q3, q4, q5, q6⟩
              · rcases hc3 with ⟨r1, r2, r3, r4, rfl, rfl⟩ | ⟨r1, -⟩ | ⟨-, -, r3, -⟩
                · refine ⟨q5, r4.trans q4.symm, ⟨hMm237.1.rk q6 (by decide) (by decide) (by decide), q7⟩, fun j hj => ?_, q6, by omega⟩
                  show 1 ≤ (if j = t then sp_seg D 0 d else TT j).length ∧ (if j = t then sp_seg D 0 d else TT j).length ≤ 40
                  by_cases z : j = t
                  · rw [if_pos z, sp_seg_len]; exact ⟨q1, q2⟩
                  · rw [if_neg z]; exact hUm237.2.2 j (by omega)
                · omega
                · omega
              · rcases hc3 with ⟨r1, r2, r3, r4, -⟩ | ⟨r1, r4, rfl, rfl⟩ | ⟨r1, r2, r3, -⟩
                · omega
                · exact ⟨q5, r4.trans q4.symm, sp_MC.rk hMm237 q6 (by decide) (by decide) (by decide) (by decide) (by decide), hUm237.2.2, q6.mono (by decide), Nat.le_refl _⟩
                · omega
              · rcases hc3 with ⟨r1, r2, r3, r4, -⟩ | ⟨r1, -⟩ | ⟨r1, r2, r3, r4, rfl, rfl⟩
                · omega
                · omega
                · exact ⟨q5, r4.trans q4.symm, sp_MC.rk hMm237 q6 (by decide) (by decide) (by decide) (by decide) (by decide), hUm237.2.2, q6.mono (by decide), Nat.le_refl _⟩
            obtain ⟨hCm242, hVm242, hSm242⟩ := sp_stepM hCm237 hVm237 hSm237 hRI hA8 hV2
            have hKm242 := sp_KZ.mf (fun a z => hVm237.row z) hKm237 hCm237.1 hV2.mf hRI
            have hUm242 : sp_by D 0 ∧ pu_P p PT ∧ pu_Tt t2 TT2 := ⟨fun j z => absurd z (Nat.not_lt_zero _), hUm237.2.1, hU2⟩
            have h4m242 := h4m237
            have hNm242 := hNm237.rk rkN (by decide)
            have hXm242 : pu_XZ p t2 e E Z j := ⟨hXm1.1.mono ht2le, hXm1.2.1.mono (Nat.le_refl _) ht2le, hXm1.2.2⟩
            refine sp_pop X (pc := 245) dL_law_245 rfl ?_
            refine sp_goto X (pc := 246) (tgt := 635) dL_law_246 (by decide) ?_
            refine sp_iinc X (pc := 635) (v := (nI (6 * (j + 1) + 1))) (lv' := [(3, false, .int (nI (6 * (j + 1) + 1))), (0, false, va_rf (some sb)), (1, false, va_rf (some (A 17))), (2, false, va_rf (some (B 0)))]) dL_law_635 rfl ((by rw [show 6 * (j + 1) + 1 = 6 * j + 1 + 6 from by omega, ← nI_add (6 * j + 1) 6]; exact congrArg (nI (6 * j + 1) + ·) (by decide))) (by decide) rfl ?_
            refine sp_goto X (pc := 638) (tgt := 28) dL_law_638 (by decide) ?_
            refine sp_pick X [1, 2, 3, 0] (lv' := [(0, false, va_rf (some sb)), (1, false, va_rf (some (A 17))), (2, false, va_rf (some (B 0))), (3, false, .int (nI (6 * (j + 1) + 1)))]) rfl ?_
            refine sp_less X (k' := 7000 * (64 - (j + 1))) (n' := 66000 * (64 - (j + 1))) (by omega) (by omega) ?_
            exact ih _ (by omega) m242 _ _ _ _ _ _ _ _ _ _ _ _ _ _ _ _ _ _ _ _ _ _ (j + 1) hCm242 hVm242 hSm242 hMm242 hUm242 h4m242 hKm242 hNm242 (hXm242.up (by omega)) (by omega) rfl
          · refine sp_tableIn X (pc := 43) (off := 206) (tgt := 249) dL_law_43 (by rw [hsw43]; decide) (by rw [hsw43]; decide) (by rw [hsw43]; decide) (by decide) ?_
            refine sp_aload_n X (pc := 249) (r := some (A 17)) dL_law_249 rfl rfl ?_
            refine sp_aload_n X (pc := 250) (r := some sb) dL_law_250 rfl rfl ?_
            refine sp_iload_n X (pc := 251) (x := nI (6 * j + 1)) dL_law_251 rfl rfl ?_
            refine sp_iconst X (pc := 252) (v := 1) dL_law_252 (by decide) ?_
            refine sp_iadd X (pc := 253) dL_law_253 ?_
            rw [show ((nI (6 * j + 1)) + 1) = (nI ((6 * j + 1) + 1)) from (nI_add (6 * j + 1) 1)]
            refine sp_iaload X (pc := 254) (a := sb) rfl (Or.inr hSm1.1) (sp_in ((6 * j + 1) + 1) hSm1.2.1 (by omega) (by omega)) dL_law_254 ?_
            rw [show (m1.aI sb (nI ((6 * j + 1) + 1)).toNatClampNeg) = (xs ((6 * j + 1) + 1)) from (hSm1.rd (by omega))]
            refine sp_aload_n X (pc := 255) (r := some sb) dL_law_255 rfl rfl ?_
            refine sp_iload_n X (pc := 256) (x := nI (6 * j + 1)) dL_law_256 rfl rfl ?_
            refine sp_iconst X (pc := 257) (v := 2) dL_law_257 (by decide) ?_
            refine sp_iadd X (pc := 258) dL_law_258 ?_
            rw [show ((nI (6 * j + 1)) + 2) = (nI ((6 * j + 1) + 2)) from (nI_add (6 * j + 1) 2)]
            refine sp_iaload X (pc := 259) (a := sb) rfl (Or.inr hSm1.1) (sp_in ((6 * j + 1) + 2) hSm1.2.1 (by omega) (by omega)) dL_law_259 ?_
            rw [show (m1.aI sb (nI ((6 * j + 1) + 2)).toNatClampNeg) = (xs ((6 * j + 1) + 2)) from (hSm1.rd (by omega))]
            refine sp_aload_n X (pc := 260) (r := some sb) dL_law_260 rfl rfl ?_
            refine sp_iload_n X (pc := 261) (x := nI (6 * j + 1)) dL_law_261 rfl rfl ?_
            refine sp_iconst X (pc := 262) (v := 3) dL_law_262 (by decide) ?_
            refine sp_iadd X (pc := 263) dL_law_263 ?_
            rw [show ((nI (6 * j + 1)) + 3) = (nI ((6 * j + 1) + 3)) from (nI_add (6 * j + 1) 3)]
            refine sp_iaload X (pc := 264) (a := sb) rfl (Or.inr hSm1.1) (sp_in ((6 * j + 1) + 3) hSm1.2.1 (by omega) (by omega)) dL_law_264 ?_
            rw [show (m1.aI sb (nI ((6 * j + 1) + 3)).toNatClampNeg) = (xs ((6 * j + 1) + 3)) from (hSm1.rd (by omega))]
            refine sp_aload_n X (pc := 265) (r := some sb) dL_law_265 rfl rfl ?_
            refine sp_iload_n X (pc := 266) (x := nI (6 * j + 1)) dL_law_266 rfl rfl ?_
            refine sp_iconst X (pc := 267) (v := 4) dL_law_267 (by decide) ?_
            refine sp_iadd X (pc := 268) dL_law_268 ?_
            rw [show ((nI (6 * j + 1)) + 4) = (nI ((6 * j + 1) + 4)) from (nI_add (6 * j + 1) 4)]
            refine sp_iaload X (pc := 269) (a := sb) rfl (Or.inr hSm1.1) (sp_in ((6 * j + 1) + 4) hSm1.2.1 (by omega) (by omega)) dL_law_269 ?_
            rw [show (m1.aI sb (nI ((6 * j + 1) + 4)).toNatClampNeg) = (xs ((6 * j + 1) + 4)) from (hSm1.rd (by omega))]
            refine sp_i2l X (pc := 270) dL_law_270 ?_
            refine sp_bipush X (pc := 271) (v := 32) dL_law_271 (by decide) ?_
            refine sp_lshl X (pc := 273) dL_law_273 rfl ?_
            refine sp_aload_n X (pc := 274) (r := some sb) dL_law_274 rfl rfl ?_
            refine sp_iload_n X (pc := 275) (x := nI (6 * j + 1)) dL_law_275 rfl rfl ?_
            refine sp_iconst X (pc := 276) (v := 5) dL_law_276 (by decide) ?_
            refine sp_iadd X (pc := 277) dL_law_277 ?_
            rw [show ((nI (6 * j + 1)) + 5) = (nI ((6 * j + 1) + 5)) from (nI_add (6 * j + 1) 5)]
            refine sp_iaload X (pc := 278) (a := sb) rfl (Or.inr hSm1.1) (sp_in ((6 * j + 1) + 5) hSm1.2.1 (by omega) (by omega)) dL_law_278 ?_
            rw [show (m1.aI sb (nI ((6 * j + 1) + 5)).toNatClampNeg) = (xs ((6 * j + 1) + 5)) from (hSm1.rd (by omega))]
            refine sp_i2l X (pc := 279) dL_law_279 ?_
            refine sp_ldc2 X (pc := 280) (v := 4294967295) kl_Law_45 dL_law_280 ?_
            refine sp_land X (pc := 283) dL_law_283 ?_
            refine sp_lor X (pc := 284) dL_law_284 ?_
            obtain ⟨e2, li2, -⟩ := id hCm1.2.2.2.2.2.2.2.1
            obtain ⟨e3, li3, -⟩ := id hCm1.2.2.2.2.2.2.2.2.1
            obtain ⟨e4, li4, -⟩ := id hKm1.1
            refine sp_callV X (pc := 285) (mc := 2) (ms := 500) (b := (A 17)) (c := 12) (r := some (A 17)) (As := [.int (xs ((6 * j + 1) + 1)), .int (xs ((6 * j + 1) + 2)), .int (xs ((6 * j + 1) + 3)), .long ((((xs ((6 * j + 1) + 4)).toInt64) <<< (Int32.toInt64 32 &&& 63)) ||| (((xs ((6 * j + 1) + 5)).toInt64) &&& 4294967295))]) (rest := []) (c_SP_entry l G _ hG hCm1.1 hCm1.2.2.1 li2 li3 li4) ok_SP_entry rfl (hCm1.1.S.k 17 13 (by decide)) (by decide) rfl lk_Law_47 rfl rfl (Nat.zero_le _) (Nat.le_of_ble_eq_true rfl) (Nat.le_of_ble_eq_true rfl) (by omega) (by omega) dL_law_285 (sp_kI fun v285 m285 hp285 => ?_)
            obtain ⟨en, E2, hCm285, hVm285, hSm285, rkm285, hKm285, hc3⟩ : ∃ en E2, sp_CI G P A m285 R D d p PT t TT en l0 l1 ∧ sp_V B m285 m285 D R l0 l1 d n b p t e n ws vq vm vl vs vA vE ∧ sp_SI m285 sb N xs ∧ sp_rk B [] m1 m285 ∧ sp_KZ G A m285 R PT TT en E2 Z ls ∧ ((¬ pu_ent (xs (6 * j + 1 + 1)) (xs (6 * j + 1 + 2)) (xs (6 * j + 1 + 3)) (((xs (6 * j + 1 + 4)).toInt64 <<< (Int32.toInt64 32 &&& 63)) ||| ((xs (6 * j + 1 + 5)).toInt64 &&& 4294967295)) p t ∧ v285 = -7 ∧ en = e ∧ E2 = E) ∨ (pu_ent (xs (6 * j + 1 + 1)) (xs (6 * j + 1 + 2)) (xs (6 * j + 1 + 3)) (((xs (6 * j + 1 + 4)).toInt64 <<< (Int32.toInt64 32 &&& 63)) ||| ((xs (6 * j + 1 + 5)).toInt64 &&& 4294967295)) p t ∧ ¬ e < 100 ∧ v285 = -6 ∧ en = e ∧ E2 = E) ∨ (pu_ent (xs (6 * j + 1 + 1)) (xs (6 * j + 1 + 2)) (xs (6 * j + 1 + 3)) (((xs (6 * j + 1 + 4)).toInt64 <<< (Int32.toInt64 32 &&& 63)) ||| ((xs (6 * j + 1 + 5)).toInt64 &&& 4294967295)) p t ∧ e < 100 ∧ v285 = nI e ∧ en = e + 1 ∧ ∃ qq xx, qq < p ∧ (xs (6 * j + 1 + 2)) = nI qq ∧ E2 = pu_Em E e (xs (6 * j + 1 + 1)) qq xx (xs (6 * j + 1 + 3)) (((xs (6 * j + 1 + 4)).toInt64 <<< (Int32.toInt64 32 &&& 63)) ||| ((xs (6 * j + 1 + 5)).toInt64 &&& 4294967295)) ∧ pu_EW p t (e + 1) E2)) := by
              rcases hp285 with ⟨q1, q2, q3⟩ | ⟨q1, q2, q3, q4⟩ | ⟨q1, q2, q3, q4, q5, q6, e4', ea, pa, oo, q7, q8, q9, q10, q11, q12⟩
              · subst q3
                exact ⟨e, E, hCm1, hVm1, hSm1, sp_rk.refl _ _ _, hKm1, Or.inl ⟨q1, q2, rfl, rfl⟩⟩
              · subst q4
                exact ⟨e, E, hCm1, hVm1, hSm1, sp_rk.refl _ _ _, hKm1, Or.inr (Or.inl ⟨q1, q2, q3, rfl, rfl⟩)⟩
              · obtain ⟨a1, a2, a3, a4⟩ := sp_stepE hCm1 hVm1 hSm1 q4 q6 q5 q7
                obtain ⟨qq, xx, b1, b2, b3, b4, b5, b6⟩ := hKm1.more hCm1.1 q6 hCm1.2.2.2.2.2.2.2.1 hCm1.2.2.2.2.2.2.2.2.1 li2 li3 li4 q7 q8 q9 q10 q11 q12
                exact ⟨_, _, a1, a2, a3, a4, b6, Or.inr (Or.inr ⟨q1, q2, q3, rfl, qq, xx, b1, b2, rfl, hXm1.2.1.more (pu_ent.k q1) b1 b3 b4 q1.2.2.2.1 b5⟩)⟩
            have hMm285 := sp_MC.rk hMm1 rkm285 (by decide) (by decide) (by decide) (by decide) (by decide)
            have hUm285 := hUm1
            have h4m285 := h4m1
            have hNm285 := hNm1.rk rkm285 (by decide)
            refine sp_pop X (pc := 288) dL_law_288 rfl ?_
            refine sp_aload_n X (pc := 289) (r := some (B 0)) dL_law_289 rfl rfl ?_
            refine sp_aload_n X (pc := 290) (r := some sb) dL_law_290 rfl rfl ?_
            refine sp_iload_n X (pc := 291) (x := nI (6 * j + 1)) dL_law_291 rfl rfl ?_
            refine sp_iconst X (pc := 292) (v := 1) dL_law_292 (by decide) ?_
            refine sp_iadd X (pc := 293) dL_law_293 ?_
            rw [show ((nI (6 * j + 1)) + 1) = (nI ((6 * j + 1) + 1)) from (nI_add (6 * j + 1) 1)]
            refine sp_iaload X (pc := 294) (a := sb) rfl (Or.inr hSm285.1) (sp_in ((6 * j + 1) + 1) hSm285.2.1 (by omega) (by omega)) dL_law_294 ?_
            rw [show (m285.aI sb (nI ((6 * j + 1) + 1)).toNatClampNeg) = (xs ((6 * j + 1) + 1)) from (hSm285.rd (by omega))]
            refine sp_aload_n X (pc := 295) (r := some sb) dL_law_295 rfl rfl ?_
            refine sp_iload_n X (pc := 296) (x := nI (6 * j + 1)) dL_law_296 rfl rfl ?_
            refine sp_iconst X (pc := 297) (v := 2) dL_law_297 (by decide) ?_
            refine sp_iadd X (pc := 298) dL_law_298 ?_
            rw [show ((nI (6 * j + 1)) + 2) = (nI ((6 * j + 1) + 2)) from (nI_add (6 * j + 1) 2)]
            refine sp_iaload X (pc := 299) (a := sb) rfl (Or.inr hSm285.1) (sp_in ((6 * j + 1) + 2) hSm285.2.1 (by omega) (by omega)) dL_law_299 ?_
            rw [show (m285.aI sb (nI ((6 * j + 1) + 2)).toNatClampNeg) = (xs ((6 * j + 1) + 2)) from (hSm285.rd (by omega))]
            refine sp_aload_n X (pc := 300) (r := some sb) dL_law_300 rfl rfl ?_
            refine sp_iload_n X (pc := 301) (x := nI (6 * j + 1)) dL_law_301 rfl rfl ?_
            refine sp_iconst X (pc := 302) (v := 3) dL_law_302 (by decide) ?_
            refine sp_iadd X (pc := 303) dL_law_303 ?_
            rw [show ((nI (6 * j + 1)) + 3) = (nI ((6 * j + 1) + 3)) from (nI_add (6 * j + 1) 3)]
            refine sp_iaload X (pc := 304) (a := sb) rfl (Or.inr hSm285.1) (sp_in ((6 * j + 1) + 3) hSm285.2.1 (by omega) (by omega)) dL_law_304 ?_
            rw [show (m285.aI sb (nI ((6 * j + 1) + 3)).toNatClampNeg) = (xs ((6 * j + 1) + 3)) from (hSm285.rd (by omega))]
            refine sp_aload_n X (pc := 305) (r := some sb) dL_law_305 rfl rfl ?_
            refine sp_iload_n X (pc := 306) (x := nI (6 * j + 1)) dL_law_306 rfl rfl ?_
            refine sp_iconst X (pc := 307) (v := 4) dL_law_307 (by decide) ?_
            refine sp_iadd X (pc := 308) dL_law_308 ?_
            rw [show ((nI (6 * j + 1)) + 4) = (nI ((6 * j + 1) + 4)) from (nI_add (6 * j + 1) 4)]
            refine sp_iaload X (pc := 309) (a := sb) rfl (Or.inr hSm285.1) (sp_in ((6 * j + 1) + 4) hSm285.2.1 (by omega) (by omega)) dL_law_309 ?_
            rw [show (m285.aI sb (nI ((6 * j + 1) + 4)).toNatClampNeg) = (xs ((6 * j + 1) + 4)) from (hSm285.rd (by omega))]
            refine sp_i2l X (pc := 310) dL_law_310 ?_
            refine sp_bipush X (pc := 311) (v := 32) dL_law_311 (by decide) ?_
            refine sp_lshl X (pc := 313) dL_law_313 rfl ?_
            refine sp_aload_n X (pc := 314) (r := some sb) dL_law_314 rfl rfl ?_
            refine sp_iload_n X (pc := 315) (x := nI (6 * j + 1)) dL_law_315 rfl rfl ?_
            refine sp_iconst X (pc := 316) (v := 5) dL_law_316 (by decide) ?_
            refine sp_iadd X (pc := 317) dL_law_317 ?_
            rw [show ((nI (6 * j + 1)) + 5) = (nI ((6 * j + 1) + 5)) from (nI_add (6 * j + 1) 5)]
            refine sp_iaload X (pc := 318) (a := sb) rfl (Or.inr hSm285.1) (sp_in ((6 * j + 1) + 5) hSm285.2.1 (by omega) (by omega)) dL_law_318 ?_
            rw [show (m285.aI sb (nI ((6 * j + 1) + 5)).toNatClampNeg) = (xs ((6 * j + 1) + 5)) from (hSm285.rd (by omega))]
            refine sp_i2l X (pc := 319) dL_law_319 ?_
            refine sp_ldc2 X (pc := 320) (v := 4294967295) kl_Law_45 dL_law_320 ?_
            refine sp_land X (pc := 323) dL_law_323 ?_
            refine sp_lor X (pc := 324) dL_law_324 ?_
            refine sp_callV X (pc := 325) (mc := 0) (ms := 0) (b := (B 0)) (c := 13) (r := some (B 0)) (As := [.int (xs ((6 * j + 1) + 1)), .int (xs ((6 * j + 1) + 2)), .int (xs ((6 * j + 1) + 3)), .long ((((xs ((6 * j + 1) + 4)).toInt64) <<< (Int32.toInt64 32 &&& 63)) ||| (((xs ((6 * j + 1) + 5)).toInt64) &&& 4294967295))]) (rest := []) (c_Mo_entry l G _ hVm285) ok_Mo_entry rfl hVm285.r.o (by decide) rfl lk_Law_51 rfl rfl (Nat.zero_le _) (Nat.le_of_ble_eq_true rfl) (Nat.le_of_ble_eq_true rfl) (Nat.zero_le _) (Nat.zero_le _) dL_law_325 (sp_kI fun v325 m325 hp325 => ?_)
            obtain ⟨vE2, hV2, hE325, rk2, hmE2, hEW2⟩ : ∃ vE2, sp_V B m285 m325 D R l0 l1 d n b p t en n ws vq vm vl vs vA vE2 ∧ v285 = v325 ∧ sp_rk B [25, 26, 27] m285 m325 ∧ sp_mE m325 B en vE2 E2 ∧ pu_EW p t en E2 := by
              rcases hp325 with ⟨q1, q2, q3⟩ | ⟨q1, q2, q3, q4⟩ | ⟨q1, q2, q3, q4, q5, q6, q7⟩
              · rcases hc3 with ⟨r1, r2, rfl, rfl⟩ | ⟨r1, -⟩ | ⟨r1, -⟩
                · subst q3
                  exact ⟨vE, hVm285, r2.trans q2.symm, sp_rk.refl _ _ _, hNm285.2.1, hXm1.2.1⟩
                · exact absurd r1 q1
                · exact absurd r1 q1
              · rcases hc3 with ⟨r1, -⟩ | ⟨r1, r2, r3, rfl, rfl⟩ | ⟨r1, r2, -⟩
                · exact absurd q1 r1
                · subst q4
                  exact ⟨vE, hVm285, r3.trans q3.symm, sp_rk.refl _ _ _, hNm285.2.1, hXm1.2.1⟩
                · exact absurd r2 q2
              · rcases hc3 with ⟨r1, -⟩ | ⟨r1, r2, -⟩ | ⟨r1, r2, r3, rfl, qq, xx, r4, r5, rfl, r6⟩
                · exact absurd q1 r1
                · exact absurd q2 r2
                · exact ⟨_, q4, r3.trans q3.symm, q5, hNm285.2.1.more r5 q6 q7, r6⟩
            obtain ⟨hCm325, hVm325, hSm325⟩ := sp_stepM hCm285 hVm285 hSm285 hRI hA8 hV2
            have hKm325 := sp_KZ.mf (fun a z => hVm285.row z) hKm285 hCm285.1 hV2.mf hRI
            have hMm325 := sp_MC.rk hMm285 rk2 (by decide) (by decide) (by decide) (by decide) (by decide)
            have hUm325 := hUm285
            have h4m325 := h4m285
            have hNm325 : sp_NZ m325 B n b en vq vm vl vs vA vE2 E2 Z ls := ⟨hNm285.1.rk rk2 (by decide), hmE2, hNm285.2.2⟩
            have hXm325 : pu_XZ p t en E2 Z j := ⟨hXm1.1, hEW2, hXm1.2.2⟩
            clear hc3 hp325 hp285
            refine sp_pop X (pc := 328) dL_law_328 rfl ?_
            refine sp_goto X (pc := 329) (tgt := 635) dL_law_329 (by decide) ?_
            refine sp_iinc X (pc := 635) (v := (nI (6 * (j + 1) + 1))) (lv' := [(3, false, .int (nI (6 * (j + 1) + 1))), (0, false, va_rf (some sb)), (1, false, va_rf (some (A 17))), (2, false, va_rf (some (B 0)))]) dL_law_635 rfl ((by rw [show 6 * (j + 1) + 1 = 6 * j + 1 + 6 from by omega, ← nI_add (6 * j + 1) 6]; exact congrArg (nI (6 * j + 1) + ·) (by decide))) (by decide) rfl ?_
            refine sp_goto X (pc := 638) (tgt := 28) dL_law_638 (by decide) ?_
            refine sp_pick X [1, 2, 3, 0] (lv' := [(0, false, va_rf (some sb)), (1, false, va_rf (some (A 17))), (2, false, va_rf (some (B 0))), (3, false, .int (nI (6 * (j + 1) + 1)))]) rfl ?_
            refine sp_less X (k' := 7000 * (64 - (j + 1))) (n' := 66000 * (64 - (j + 1))) (by omega) (by omega) ?_
            exact ih _ (by omega) m325 _ _ _ _ _ _ _ _ _ _ _ _ _ _ _ _ _ _ _ _ _ _ (j + 1) hCm325 hVm325 hSm325 hMm325 hUm325 h4m325 hKm325 hNm325 (hXm325.up (by omega)) (by omega) rfl
          · refine sp_tableIn X (pc := 43) (off := 289) (tgt := 332) dL_law_43 (by rw [hsw43]; decide) (by rw [hsw43]; decide) (by rw [hsw43]; decide) (by decide) ?_
            refine sp_aload_n X (pc := 332) (r := some (A 17)) dL_law_332 rfl rfl ?_
            refine sp_aload_n X (pc := 333) (r := some sb) dL_law_333 rfl rfl ?_
            refine sp_iload_n X (pc := 334) (x := nI (6 * j + 1)) dL_law_334 rfl rfl ?_
            refine sp_iconst X (pc := 335) (v := 1) dL_law_335 (by decide) ?_
            refine sp_iadd X (pc := 336) dL_law_336 ?_
            rw [show ((nI (6 * j + 1)) + 1) = (nI ((6 * j + 1) + 1)) from (nI_add (6 * j + 1) 1)]
            refine sp_iaload X (pc := 337) (a := sb) rfl (Or.inr hSm1.1) (sp_in ((6 * j + 1) + 1) hSm1.2.1 (by omega) (by omega)) dL_law_337 ?_
            rw [show (m1.aI sb (nI ((6 * j + 1) + 1)).toNatClampNeg) = (xs ((6 * j + 1) + 1)) from (hSm1.rd (by omega))]
            obtain ⟨NA, BA, hcZ⟩ := hKm1.2.1
            refine sp_callV X (pc := 338) (mc := 6840) (ms := 38000) (b := (A 17)) (c := 12) (r := some (A 17)) (As := [.int (xs ((6 * j + 1) + 1))]) (rest := []) (c_SP_take l G _ hG hCm1.1 hcZ hXm1.1 hCm1.2.2.2.2.2.2.1 hKm1.1 hXm1.2.1 hUm1.2.1 (fun q hq => (hUm1.2.2 q hq).2) (by have := hXm1.2.2; omega)) ok_SP_take rfl (hCm1.1.S.k 17 13 (by decide)) (by decide) rfl lk_Law_52 rfl rfl (Nat.zero_le _) (Nat.le_of_ble_eq_true rfl) (Nat.le_of_ble_eq_true rfl) (by omega) (by omega) dL_law_338 (sp_kI fun v338 m338 hp338 => ?_)
            obtain ⟨hI2, hF2, Zc, NA2, BA2, hcZ2, hZW2, htk⟩ := hp338
            obtain ⟨hCm338, hVm338, hSm338, rkm338⟩ := sp_stepF hCm1 hVm1 hSm1 hI2 hF2 (hcZ2.bn hZW2) (by unfold sp_Tb; omega) (by unfold sp_Tb; omega) (by unfold sp_Tb; omega)
            have hMm338 := sp_MC.rk hMm1 rkm338 (by decide) (by decide) (by decide) (by decide) (by decide)
            have hUm338 := hUm1
            have h4m338 := h4m1
            have hNm338 := hNm1.rk rkm338 (by decide)
            have hKm338 : sp_KZ G A m338 R PT TT e E Zc (m338.fI 776 (A 17)) := ⟨hKm1.1.F hCm1.1 hF2 (by unfold sp_Tb; decide), ⟨NA2, BA2, hcZ2⟩, rfl⟩
            rw [hKm1.2.2, hCm1.2.2.2.2.2.1.1, hCm1.2.2.2.2.2.1.2] at htk
            refine sp_pop X (pc := 341) dL_law_341 rfl ?_
            refine sp_aload_n X (pc := 342) (r := some (B 0)) dL_law_342 rfl rfl ?_
            refine sp_aload_n X (pc := 343) (r := some sb) dL_law_343 rfl rfl ?_
            refine sp_iload_n X (pc := 344) (x := nI (6 * j + 1)) dL_law_344 rfl rfl ?_
            refine sp_iconst X (pc := 345) (v := 1) dL_law_345 (by decide) ?_
            refine sp_iadd X (pc := 346) dL_law_346 ?_
            rw [show ((nI (6 * j + 1)) + 1) = (nI ((6 * j + 1) + 1)) from (nI_add (6 * j + 1) 1)]
            refine sp_iaload X (pc := 347) (a := sb) rfl (Or.inr hSm338.1) (sp_in ((6 * j + 1) + 1) hSm338.2.1 (by omega) (by omega)) dL_law_347 ?_
            rw [show (m338.aI sb (nI ((6 * j + 1) + 1)).toNatClampNeg) = (xs ((6 * j + 1) + 1)) from (hSm338.rd (by omega))]
            refine sp_callV X (pc := 348) (mc := 0) (ms := 0) (b := (B 0)) (c := 13) (r := some (B 0)) (As := [.int (xs ((6 * j + 1) + 1))]) (rest := []) (c_Mo_take l G _ hVm338 hNm338.1 hXm1.1 hMm338.1 hUm1.2.1 hNm338.2.1 hXm1.2.1 hMm338.2 hUm1.2.2 hCm1.2.2.2.2.2.2.2.2.1.TU) ok_Mo_take rfl hVm338.r.o (by decide) rfl lk_Law_55 rfl rfl (Nat.zero_le _) (Nat.le_of_ble_eq_true rfl) (Nat.le_of_ble_eq_true rfl) (Nat.zero_le _) (Nat.zero_le _) dL_law_348 (sp_kI fun v348 m348 hp348 => ?_)
            obtain ⟨n2, b2, w2, vq2, vm2, vl2, vs2, vA2, Z2, hV2, hMZ2, rk2, htk2⟩ := hp348
            rw [hNm338.2.2] at htk2
            obtain ⟨hE348, hZe, hle⟩ := htk.det hVm1.he htk2
            obtain ⟨hCm348, hVm348, hSm348⟩ := sp_stepM hCm338 hVm338 hSm338 hRI hA8 hV2
            have hKm348 := sp_KZ.mf (fun a z => hVm338.row z) hKm338 hCm338.1 hV2.mf hRI
            have hMm348 := sp_MC.rk hMm338 rk2 (by decide) (by decide) (by decide) (by decide) (by decide)
            have hUm348 := hUm338
            have hXm348 : pu_XZ p t e E Zc (j + 1) := ⟨hZW2, hXm1.2.1, by have := htk.q; have := hXm1.2.2; omega⟩
            have h4m348 : 4 ≤ n2 := by rw [hMZ2.1.1, ← hZe]; exact hZW2.1.1.1
            have hNm348 : sp_NZ m348 B n2 b2 e vq2 vm2 vl2 vs2 vA2 vE E Zc (m338.fI 776 (A 17)) := ⟨by rw [hZe]; exact hMZ2, hNm338.2.1.rk rk2 (by decide) (by decide) (by decide), hle.symm⟩
            refine sp_pop X (pc := 351) dL_law_351 rfl ?_
            refine sp_goto X (pc := 352) (tgt := 635) dL_law_352 (by decide) ?_
            refine sp_iinc X (pc := 635) (v := (nI (6 * (j + 1) + 1))) (lv' := [(3, false, .int (nI (6 * (j + 1) + 1))), (0, false, va_rf (some sb)), (1, false, va_rf (some (A 17))), (2, false, va_rf (some (B 0)))]) dL_law_635 rfl ((by rw [show 6 * (j + 1) + 1 = 6 * j + 1 + 6 from by omega, ← nI_add (6 * j + 1) 6]; exact congrArg (nI (6 * j + 1) + ·) (by decide))) (by decide) rfl ?_
            refine sp_goto X (pc := 638) (tgt := 28) dL_law_638 (by decide) ?_
            refine sp_pick X [1, 2, 3, 0] (lv' := [(0, false, va_rf (some sb)), (1, false, va_rf (some (A 17))), (2, false, va_rf (some (B 0))), (3, false, .int (nI (6 * (j + 1) + 1)))]) rfl ?_
            refine sp_less X (k' := 7000 * (64 - (j + 1))) (n' := 66000 * (64 - (j + 1))) (by omega) (by omega) ?_
            exact ih _ (by omega) m348 _ _ _ _ _ _ _ _ _ _ _ _ _ _ _ _ _ _ _ _ _ _ (j + 1) hCm348 hVm348 hSm348 hMm348 hUm348 h4m348 hKm348 hNm348 (hXm348.up (by omega)) (by omega) rfl
          · refine sp_tableIn X (pc := 43) (off := 312) (tgt := 355) dL_law_43 (by rw [hsw43]; decide) (by rw [hsw43]; decide) (by rw [hsw43]; decide) (by decide) ?_
            refine sp_aload_n X (pc := 355) (r := some (A 17)) dL_law_355 rfl rfl ?_
            refine sp_aload_n X (pc := 356) (r := some sb) dL_law_356 rfl rfl ?_
            refine sp_iload_n X (pc := 357) (x := nI (6 * j + 1)) dL_law_357 rfl rfl ?_
            refine sp_iconst X (pc := 358) (v := 1) dL_law_358 (by decide) ?_
            refine sp_iadd X (pc := 359) dL_law_359 ?_
            rw [show ((nI (6 * j + 1)) + 1) = (nI ((6 * j + 1) + 1)) from (nI_add (6 * j + 1) 1)]
            refine sp_iaload X (pc := 360) (a := sb) rfl (Or.inr hSm1.1) (sp_in ((6 * j + 1) + 1) hSm1.2.1 (by omega) (by omega)) dL_law_360 ?_
            rw [show (m1.aI sb (nI ((6 * j + 1) + 1)).toNatClampNeg) = (xs ((6 * j + 1) + 1)) from (hSm1.rd (by omega))]
            obtain ⟨NA, BA, hcZ⟩ := hKm1.2.1
            refine sp_callV X (pc := 361) (mc := 6810) (ms := 27240) (b := (A 17)) (c := 12) (r := some (A 17)) (As := [.int (xs ((6 * j + 1) + 1))]) (rest := []) (c_SP_dry l G _ hG hCm1.1 hcZ hXm1.1 hCm1.2.2.2.2.2.2.1 hKm1.1 hXm1.2.1 hUm1.2.1 (fun q hq => (hUm1.2.2 q hq).2)) ok_SP_dry rfl (hCm1.1.S.k 17 13 (by decide)) (by decide) rfl lk_Law_56 rfl rfl (Nat.zero_le _) (Nat.le_of_ble_eq_true rfl) (Nat.le_of_ble_eq_true rfl) (by omega) (by omega) dL_law_361 (sp_kI fun v361 m361 hp361 => ?_)
            obtain ⟨hI2, hF2, hdr⟩ := hp361
            obtain ⟨hCm361, hVm361, hSm361, rkm361⟩ := sp_stepF hCm1 hVm1 hSm1 hI2 hF2 (hF2.bn hCm1.1 hCm1.2.2.1 (by unfold sp_Tj; omega) (by unfold sp_Tj; omega)) (by unfold sp_Tj; omega) (by unfold sp_Tj; omega) (by unfold sp_Tj; omega)
            have hMm361 := sp_MC.rk hMm1 rkm361 (by decide) (by decide) (by decide) (by decide) (by decide)
            have hUm361 := hUm1
            have h4m361 := h4m1
            have hNm361 := hNm1.rk rkm361 (by decide)
            have hKm361 := hKm1.F hCm1.1 hF2 (by unfold sp_Tj; decide) ⟨by unfold sp_Tj; decide, by unfold sp_Tj; decide, by unfold sp_Tj; decide, by unfold sp_Tj; decide, by unfold sp_Tj; decide, by unfold sp_Tj; decide, by unfold sp_Tj; decide⟩ (by unfold sp_Tj; decide)
            rw [hCm1.2.2.2.2.2.1.1, hCm1.2.2.2.2.2.1.2] at hdr
            refine sp_pop X (pc := 364) dL_law_364 rfl ?_
            refine sp_aload_n X (pc := 365) (r := some (B 0)) dL_law_365 rfl rfl ?_
            refine sp_aload_n X (pc := 366) (r := some sb) dL_law_366 rfl rfl ?_
            refine sp_iload_n X (pc := 367) (x := nI (6 * j + 1)) dL_law_367 rfl rfl ?_
            refine sp_iconst X (pc := 368) (v := 1) dL_law_368 (by decide) ?_
            refine sp_iadd X (pc := 369) dL_law_369 ?_
            rw [show ((nI (6 * j + 1)) + 1) = (nI ((6 * j + 1) + 1)) from (nI_add (6 * j + 1) 1)]
            refine sp_iaload X (pc := 370) (a := sb) rfl (Or.inr hSm361.1) (sp_in ((6 * j + 1) + 1) hSm361.2.1 (by omega) (by omega)) dL_law_370 ?_
            rw [show (m361.aI sb (nI ((6 * j + 1) + 1)).toNatClampNeg) = (xs ((6 * j + 1) + 1)) from (hSm361.rd (by omega))]
            refine sp_callV X (pc := 371) (mc := 0) (ms := 0) (b := (B 0)) (c := 13) (r := some (B 0)) (As := [.int (xs ((6 * j + 1) + 1))]) (rest := []) (c_Mo_dry l G _ hVm361 hNm361.1 hXm1.1 hMm361.1 hUm1.2.1 hNm361.2.1 hXm1.2.1 hMm361.2 hUm1.2.2 hCm1.2.2.2.2.2.2.2.2.1.TU) ok_Mo_dry rfl hVm361.r.o (by decide) rfl lk_Law_59 rfl rfl (Nat.zero_le _) (Nat.le_of_ble_eq_true rfl) (Nat.le_of_ble_eq_true rfl) (Nat.zero_le _) (Nat.zero_le _) dL_law_371 (sp_kI fun v371 m371 hp371 => ?_)
            obtain ⟨n2, b2, w2, vq2, vm2, vl2, vs2, vA2, Z2, hV2, hMZ2, rk2, rfl, hle, hdr2⟩ := hp371
            have hE371 := hdr.det hVm1.he hdr2
            obtain ⟨hCm371, hVm371, hSm371⟩ := sp_stepM hCm361 hVm361 hSm361 hRI hA8 hV2
            have hKm371 := sp_KZ.mf (fun a z => hVm361.row z) hKm361 hCm361.1 hV2.mf hRI
            have hMm371 := sp_MC.rk hMm361 rk2 (by decide) (by decide) (by decide) (by decide) (by decide)
            have hUm371 := hUm361
            have hXm371 := hXm1
            have h4m371 : 4 ≤ n2 := by rw [hMZ2.1.1]; exact hXm1.1.1.1.1
            have hNm371 : sp_NZ m371 B n2 b2 e vq2 vm2 vl2 vs2 vA2 vE E Z2 ls := ⟨hMZ2, hNm361.2.1.rk rk2 (by decide) (by decide) (by decide), hle.trans hNm361.2.2⟩
            refine sp_pop X (pc := 374) dL_law_374 rfl ?_
            refine sp_goto X (pc := 375) (tgt := 635) dL_law_375 (by decide) ?_
            refine sp_iinc X (pc := 635) (v := (nI (6 * (j + 1) + 1))) (lv' := [(3, false, .int (nI (6 * (j + 1) + 1))), (0, false, va_rf (some sb)), (1, false, va_rf (some (A 17))), (2, false, va_rf (some (B 0)))]) dL_law_635 rfl ((by rw [show 6 * (j + 1) + 1 = 6 * j + 1 + 6 from by omega, ← nI_add (6 * j + 1) 6]; exact congrArg (nI (6 * j + 1) + ·) (by decide))) (by decide) rfl ?_
            refine sp_goto X (pc := 638) (tgt := 28) dL_law_638 (by decide) ?_
            refine sp_pick X [1, 2, 3, 0] (lv' := [(0, false, va_rf (some sb)), (1, false, va_rf (some (A 17))), (2, false, va_rf (some (B 0))), (3, false, .int (nI (6 * (j + 1) + 1)))]) rfl ?_
            refine sp_less X (k' := 7000 * (64 - (j + 1))) (n' := 66000 * (64 - (j + 1))) (by omega) (by omega) ?_
            exact ih _ (by omega) m371 _ _ _ _ _ _ _ _ _ _ _ _ _ _ _ _ _ _ _ _ _ _ (j + 1) hCm371 hVm371 hSm371 hMm371 hUm371 h4m371 hKm371 hNm371 (hXm371.up (by omega)) (by omega) rfl
          · refine sp_tableIn X (pc := 43) (off := 335) (tgt := 378) dL_law_43 (by rw [hsw43]; decide) (by rw [hsw43]; decide) (by rw [hsw43]; decide) (by decide) ?_
            refine sp_aload_n X (pc := 378) (r := some (A 17)) dL_law_378 rfl rfl ?_
            obtain ⟨NA, BA, hcZ⟩ := hKm1.2.1
            refine sp_callV X (pc := 379) (mc := 0) (ms := 0) (b := (A 17)) (c := 12) (r := some (A 17)) (As := []) (rest := []) (c_SP_finish l G _ hG hCm1.1 hcZ hXm1.1) ok_SP_finish rfl (hCm1.1.S.k 17 13 (by decide)) (by decide) rfl lk_Law_60 rfl rfl (Nat.zero_le _) (Nat.le_of_ble_eq_true rfl) (Nat.le_of_ble_eq_true rfl) (Nat.zero_le _) (Nat.zero_le _) dL_law_379 (sp_kI fun v379 m379 hp379 => ?_)
            obtain ⟨hI2, hF2, hvf, hcZ2, hZW2⟩ := hp379
            obtain ⟨hCm379, hVm379, hSm379, rkm379⟩ := sp_stepF hCm1 hVm1 hSm1 hI2 hF2 (hF2.bn hCm1.1 hCm1.2.2.1 (by unfold sp_T16; omega) (by unfold sp_T16; omega)) (by unfold sp_T16; omega) (by unfold sp_T16; omega) (by unfold sp_T16; omega)
            have hMm379 := sp_MC.rk hMm1 rkm379 (by decide) (by decide) (by decide) (by decide) (by decide)
            have hUm379 := hUm1
            have h4m379 := h4m1
            have hNm379 := hNm1.rk rkm379 (by decide)
            have hKm379 : sp_KZ G A m379 R PT TT e E (pu_fn Z) ls := ⟨hKm1.1.F hCm1.1 hF2 (by unfold sp_T16; decide), ⟨NA, BA, hcZ2⟩, by rw [hF2.I (hCm1.1.lt 17 13 (by decide) (by decide)) (by decide) (by unfold sp_T16; decide)]; exact hKm1.2.2⟩
            refine sp_pop X (pc := 382) dL_law_382 rfl ?_
            refine sp_aload_n X (pc := 383) (r := some (B 0)) dL_law_383 rfl rfl ?_
            refine sp_callV X (pc := 384) (mc := 0) (ms := 0) (b := (B 0)) (c := 13) (r := some (B 0)) (As := []) (rest := []) (c_Mo_finish l G _ hVm379 hNm379.1 hXm1.1) ok_Mo_finish rfl hVm379.r.o (by decide) rfl lk_Law_63 rfl rfl (Nat.zero_le _) (Nat.le_of_ble_eq_true rfl) (Nat.le_of_ble_eq_true rfl) (Nat.zero_le _) (Nat.zero_le _) dL_law_384 (sp_kI fun v384 m384 hp384 => ?_)
            obtain ⟨hv2, hV2, rk2, hMZ2⟩ := hp384
            have hE384 := hvf.trans hv2.symm
            obtain ⟨hCm384, hVm384, hSm384⟩ := sp_stepM hCm379 hVm379 hSm379 hRI hA8 hV2
            have hKm384 := sp_KZ.mf (fun a z => hVm379.row z) hKm379 hCm379.1 hV2.mf hRI
            have hMm384 := sp_MC.rk hMm379 rk2 (by decide) (by decide) (by decide) (by decide) (by decide)
            have hUm384 := hUm379
            have h4m384 := h4m379
            have hNm384 : sp_NZ m384 B n b e 0 vm vl vs vA vE E (pu_fn Z) ls := ⟨hMZ2, hNm379.2.1.rk rk2 (by decide) (by decide) (by decide), hNm379.2.2⟩
            have hXm384 : pu_XZ p t e E (pu_fn Z) j := ⟨hZW2, hXm1.2.1, Nat.zero_le _⟩
            refine sp_pop X (pc := 387) dL_law_387 rfl ?_
            refine sp_goto X (pc := 388) (tgt := 635) dL_law_388 (by decide) ?_
            refine sp_iinc X (pc := 635) (v := (nI (6 * (j + 1) + 1))) (lv' := [(3, false, .int (nI (6 * (j + 1) + 1))), (0, false, va_rf (some sb)), (1, false, va_rf (some (A 17))), (2, false, va_rf (some (B 0)))]) dL_law_635 rfl ((by rw [show 6 * (j + 1) + 1 = 6 * j + 1 + 6 from by omega, ← nI_add (6 * j + 1) 6]; exact congrArg (nI (6 * j + 1) + ·) (by decide))) (by decide) rfl ?_
            refine sp_goto X (pc := 638) (tgt := 28) dL_law_638 (by decide) ?_
            refine sp_pick X [1, 2, 3, 0] (lv' := [(0, false, va_rf (some sb)), (1, false, va_rf (some (A 17))), (2, false, va_rf (some (B 0))), (3, false, .int (nI (6 * (j + 1) + 1)))]) rfl ?_
            refine sp_less X (k' := 7000 * (64 - (j + 1))) (n' := 66000 * (64 - (j + 1))) (by omega) (by omega) ?_
            exact ih _ (by omega) m384 _ _ _ _ _ _ _ _ _ _ _ _ _ _ _ _ _ _ _ _ _ _ (j + 1) hCm384 hVm384 hSm384 hMm384 hUm384 h4m384 hKm384 hNm384 (hXm384.up (by omega)) (by omega) rfl
          · refine sp_tableIn X (pc := 43) (off := 348) (tgt := 391) dL_law_43 (by rw [hsw43]; decide) (by rw [hsw43]; decide) (by rw [hsw43]; decide) (by decide) ?_
            refine sp_aload_n X (pc := 391) (r := some (A 17)) dL_law_391 rfl rfl ?_
            refine sp_aload_n X (pc := 392) (r := some sb) dL_law_392 rfl rfl ?_
            refine sp_iload_n X (pc := 393) (x := nI (6 * j + 1)) dL_law_393 rfl rfl ?_
            refine sp_iconst X (pc := 394) (v := 1) dL_law_394 (by decide) ?_
            refine sp_iadd X (pc := 395) dL_law_395 ?_
            rw [show ((nI (6 * j + 1)) + 1) = (nI ((6 * j + 1) + 1)) from (nI_add (6 * j + 1) 1)]
            refine sp_iaload X (pc := 396) (a := sb) rfl (Or.inr hSm1.1) (sp_in ((6 * j + 1) + 1) hSm1.2.1 (by omega) (by omega)) dL_law_396 ?_
            rw [show (m1.aI sb (nI ((6 * j + 1) + 1)).toNatClampNeg) = (xs ((6 * j + 1) + 1)) from (hSm1.rd (by omega))]
            refine sp_aload_n X (pc := 397) (r := some sb) dL_law_397 rfl rfl ?_
            refine sp_iload_n X (pc := 398) (x := nI (6 * j + 1)) dL_law_398 rfl rfl ?_
            refine sp_iconst X (pc := 399) (v := 2) dL_law_399 (by decide) ?_
            refine sp_iadd X (pc := 400) dL_law_400 ?_
            rw [show ((nI (6 * j + 1)) + 2) = (nI ((6 * j + 1) + 2)) from (nI_add (6 * j + 1) 2)]
            refine sp_iaload X (pc := 401) (a := sb) rfl (Or.inr hSm1.1) (sp_in ((6 * j + 1) + 2) hSm1.2.1 (by omega) (by omega)) dL_law_401 ?_
            rw [show (m1.aI sb (nI ((6 * j + 1) + 2)).toNatClampNeg) = (xs ((6 * j + 1) + 2)) from (hSm1.rd (by omega))]
            refine sp_i2l X (pc := 402) dL_law_402 ?_
            refine sp_bipush X (pc := 403) (v := 32) dL_law_403 (by decide) ?_
            refine sp_lshl X (pc := 405) dL_law_405 rfl ?_
            refine sp_aload_n X (pc := 406) (r := some sb) dL_law_406 rfl rfl ?_
            refine sp_iload_n X (pc := 407) (x := nI (6 * j + 1)) dL_law_407 rfl rfl ?_
            refine sp_iconst X (pc := 408) (v := 3) dL_law_408 (by decide) ?_
            refine sp_iadd X (pc := 409) dL_law_409 ?_
            rw [show ((nI (6 * j + 1)) + 3) = (nI ((6 * j + 1) + 3)) from (nI_add (6 * j + 1) 3)]
            refine sp_iaload X (pc := 410) (a := sb) rfl (Or.inr hSm1.1) (sp_in ((6 * j + 1) + 3) hSm1.2.1 (by omega) (by omega)) dL_law_410 ?_
            rw [show (m1.aI sb (nI ((6 * j + 1) + 3)).toNatClampNeg) = (xs ((6 * j + 1) + 3)) from (hSm1.rd (by omega))]
            refine sp_i2l X (pc := 411) dL_law_411 ?_
            refine sp_ldc2 X (pc := 412) (v := 4294967295) kl_Law_45 dL_law_412 ?_
            refine sp_land X (pc := 415) dL_law_415 ?_
            refine sp_lor X (pc := 416) dL_law_416 ?_
            refine sp_callV X (pc := 417) (mc := 0) (ms := 0) (b := (A 17)) (c := 12) (r := some (A 17)) (As := [.int (xs ((6 * j + 1) + 1)), .long ((((xs ((6 * j + 1) + 2)).toInt64) <<< (Int32.toInt64 32 &&& 63)) ||| (((xs ((6 * j + 1) + 3)).toInt64) &&& 4294967295))]) (rest := []) (c_SP_limit l G _ hG hCm1.1) ok_SP_limit rfl (hCm1.1.S.k 17 13 (by decide)) (by decide) rfl lk_Law_64 rfl rfl (Nat.zero_le _) (Nat.le_of_ble_eq_true rfl) (Nat.le_of_ble_eq_true rfl) (Nat.zero_le _) (Nat.zero_le _) dL_law_417 (sp_kL fun v417 m417 hp417 => ?_)
            have c4 := hCm1.2.2.2.2.2.1
            obtain ⟨l02, l12, hCm417, hVm417, hSm417, rkm417, hKm417, hc2⟩ : ∃ l02 l12, sp_CI G P A m417 R D d p PT t TT e l02 l12 ∧ sp_V B m417 m417 D R l0 l1 d n b p t e n ws vq vm vl vs vA vE ∧ sp_SI m417 sb N xs ∧ sp_rk B [] m1 m417 ∧ sp_KZ G A m417 R PT TT e E Z ls ∧ ((((((xs (6 * j + 1 + 2)).toInt64 <<< (Int32.toInt64 32 &&& 63)) ||| ((xs (6 * j + 1 + 3)).toInt64 &&& 4294967295)) < 0 ∨ ¬ (xs (6 * j + 1 + 1) = 0 ∨ xs (6 * j + 1 + 1) = 1)) ∧ v417 = -7 ∧ l02 = l0 ∧ l12 = l1) ∨ (¬ (((xs (6 * j + 1 + 2)).toInt64 <<< (Int32.toInt64 32 &&& 63)) ||| ((xs (6 * j + 1 + 3)).toInt64 &&& 4294967295)) < 0 ∧ xs (6 * j + 1 + 1) = 0 ∧ v417 = l0 ∧ l02 = (((xs (6 * j + 1 + 2)).toInt64 <<< (Int32.toInt64 32 &&& 63)) ||| ((xs (6 * j + 1 + 3)).toInt64 &&& 4294967295)) ∧ l12 = l1) ∨ (¬ (((xs (6 * j + 1 + 2)).toInt64 <<< (Int32.toInt64 32 &&& 63)) ||| ((xs (6 * j + 1 + 3)).toInt64 &&& 4294967295)) < 0 ∧ xs (6 * j + 1 + 1) = 1 ∧ v417 = l1 ∧ l02 = l0 ∧ l12 = (((xs (6 * j + 1 + 2)).toInt64 <<< (Int32.toInt64 32 &&& 63)) ||| ((xs (6 * j + 1 + 3)).toInt64 &&& 4294967295)))) := by
              rcases hp417 with ⟨q1, q2, q3⟩ | ⟨q1, q2, q3, q4⟩ | ⟨q1, q2, q3, q4⟩
              · subst q3
                exact ⟨l0, l1, hCm1, hVm1, hSm1, sp_rk.refl _ _ _, hKm1, Or.inl ⟨q1, q2, rfl, rfl⟩⟩
              · obtain ⟨a1, a2, a3, a4⟩ := sp_stepQ hCm1 hVm1 hSm1 (Or.inl rfl) q4
                exact ⟨_, _, a1, a2, a3, a4, by rw [q4]; exact hKm1.lim hCm1.1 (Or.inl rfl), Or.inr (Or.inl ⟨q1, q2, q3.trans c4.1, if_pos rfl, if_pos rfl⟩)⟩
              · obtain ⟨a1, a2, a3, a4⟩ := sp_stepQ hCm1 hVm1 hSm1 (Or.inr rfl) q4
                exact ⟨_, _, a1, a2, a3, a4, by rw [q4]; exact hKm1.lim hCm1.1 (Or.inr rfl), Or.inr (Or.inr ⟨q1, q2, q3.trans c4.2, if_neg (by decide), if_neg (by decide)⟩)⟩
            have hMm417 := sp_MC.rk hMm1 rkm417 (by decide) (by decide) (by decide) (by decide) (by decide)
            have hUm417 := hUm1
            have h4m417 := h4m1
            have hNm417 := hNm1.rk rkm417 (by decide)
            refine sp_pop2 X (pc := 420) dL_law_420 rfl ?_
            refine sp_aload_n X (pc := 421) (r := some (B 0)) dL_law_421 rfl rfl ?_
            refine sp_aload_n X (pc := 422) (r := some sb) dL_law_422 rfl rfl ?_
            refine sp_iload_n X (pc := 423) (x := nI (6 * j + 1)) dL_law_423 rfl rfl ?_
            refine sp_iconst X (pc := 424) (v := 1) dL_law_424 (by decide) ?_
            refine sp_iadd X (pc := 425) dL_law_425 ?_
            rw [show ((nI (6 * j + 1)) + 1) = (nI ((6 * j + 1) + 1)) from (nI_add (6 * j + 1) 1)]
            refine sp_iaload X (pc := 426) (a := sb) rfl (Or.inr hSm417.1) (sp_in ((6 * j + 1) + 1) hSm417.2.1 (by omega) (by omega)) dL_law_426 ?_
            rw [show (m417.aI sb (nI ((6 * j + 1) + 1)).toNatClampNeg) = (xs ((6 * j + 1) + 1)) from (hSm417.rd (by omega))]
            refine sp_aload_n X (pc := 427) (r := some sb) dL_law_427 rfl rfl ?_
            refine sp_iload_n X (pc := 428) (x := nI (6 * j + 1)) dL_law_428 rfl rfl ?_
            refine sp_iconst X (pc := 429) (v := 2) dL_law_429 (by decide) ?_
            refine sp_iadd X (pc := 430) dL_law_430 ?_
            rw [show ((nI (6 * j + 1)) + 2) = (nI ((6 * j + 1) + 2)) from (nI_add (6 * j + 1) 2)]
            refine sp_iaload X (pc := 431) (a := sb) rfl (Or.inr hSm417.1) (sp_in ((6 * j + 1) + 2) hSm417.2.1 (by omega) (by omega)) dL_law_431 ?_
            rw [show (m417.aI sb (nI ((6 * j + 1) + 2)).toNatClampNeg) = (xs ((6 * j + 1) + 2)) from (hSm417.rd (by omega))]
            refine sp_i2l X (pc := 432) dL_law_432 ?_
            refine sp_bipush X (pc := 433) (v := 32) dL_law_433 (by decide) ?_
            refine sp_lshl X (pc := 435) dL_law_435 rfl ?_
            refine sp_aload_n X (pc := 436) (r := some sb) dL_law_436 rfl rfl ?_
            refine sp_iload_n X (pc := 437) (x := nI (6 * j + 1)) dL_law_437 rfl rfl ?_
            refine sp_iconst X (pc := 438) (v := 3) dL_law_438 (by decide) ?_
            refine sp_iadd X (pc := 439) dL_law_439 ?_
            rw [show ((nI (6 * j + 1)) + 3) = (nI ((6 * j + 1) + 3)) from (nI_add (6 * j + 1) 3)]
            refine sp_iaload X (pc := 440) (a := sb) rfl (Or.inr hSm417.1) (sp_in ((6 * j + 1) + 3) hSm417.2.1 (by omega) (by omega)) dL_law_440 ?_
            rw [show (m417.aI sb (nI ((6 * j + 1) + 3)).toNatClampNeg) = (xs ((6 * j + 1) + 3)) from (hSm417.rd (by omega))]
            refine sp_i2l X (pc := 441) dL_law_441 ?_
            refine sp_ldc2 X (pc := 442) (v := 4294967295) kl_Law_45 dL_law_442 ?_
            refine sp_land X (pc := 445) dL_law_445 ?_
            refine sp_lor X (pc := 446) dL_law_446 ?_
            refine sp_callV X (pc := 447) (mc := 0) (ms := 0) (b := (B 0)) (c := 13) (r := some (B 0)) (As := [.int (xs ((6 * j + 1) + 1)), .long ((((xs ((6 * j + 1) + 2)).toInt64) <<< (Int32.toInt64 32 &&& 63)) ||| (((xs ((6 * j + 1) + 3)).toInt64) &&& 4294967295))]) (rest := []) (c_Mo_limit l G _ hVm417) ok_Mo_limit rfl hVm417.r.o (by decide) rfl lk_Law_68 rfl rfl (Nat.zero_le _) (Nat.le_of_ble_eq_true rfl) (Nat.le_of_ble_eq_true rfl) (Nat.zero_le _) (Nat.zero_le _) dL_law_447 (sp_kL fun v447 m447 hp447 => ?_)
            obtain ⟨hV2, hE447, rk2⟩ : sp_V B m417 m447 D R l02 l12 d n b p t e n ws vq vm vl vs vA vE ∧ v417 = v447 ∧ sp_rk B [] m417 m447 := by
              rcases hp447 with ⟨q1, q2, q3⟩ | ⟨q1, q2, q3, q4, q5⟩ | ⟨q1, q2, q3, q4, q5⟩
              · rcases hc2 with ⟨r1, r2, rfl, rfl⟩ | ⟨r1, r2, -⟩ | ⟨r1, r2, -⟩
                · subst q3
                  exact ⟨hVm417, r2.trans q2.symm, sp_rk.refl _ _ _⟩
                · exact absurd q1 (fun z => z.elim r1 (fun y => y (Or.inl r2)))
                · exact absurd q1 (fun z => z.elim r1 (fun y => y (Or.inr r2)))
              · rcases hc2 with ⟨r1, -⟩ | ⟨r1, r2, r3, rfl, rfl⟩ | ⟨r1, r2, -⟩
                · exact absurd r1 (fun z => z.elim q1 (fun y => y (Or.inl q2)))
                · exact ⟨q4, r3.trans q3.symm, q5⟩
                · exact absurd (q2.symm.trans r2) (by decide)
              · rcases hc2 with ⟨r1, -⟩ | ⟨r1, r2, -⟩ | ⟨r1, r2, r3, rfl, rfl⟩
                · exact absurd r1 (fun z => z.elim q1 (fun y => y (Or.inr q2)))
                · exact absurd (r2.symm.trans q2) (by decide)
                · exact ⟨q4, r3.trans q3.symm, q5⟩
            obtain ⟨hCm447, hVm447, hSm447⟩ := sp_stepM hCm417 hVm417 hSm417 hRI hA8 hV2
            have hKm447 := sp_KZ.mf (fun a z => hVm417.row z) hKm417 hCm417.1 hV2.mf hRI
            have hMm447 := sp_MC.rk hMm417 rk2 (by decide) (by decide) (by decide) (by decide) (by decide)
            have hUm447 := hUm417
            have h4m447 := h4m417
            have hNm447 := hNm417.rk rk2 (by decide)
            have hXm447 := hXm1
            refine sp_pop2 X (pc := 450) dL_law_450 rfl ?_
            refine sp_goto X (pc := 451) (tgt := 635) dL_law_451 (by decide) ?_
            refine sp_iinc X (pc := 635) (v := (nI (6 * (j + 1) + 1))) (lv' := [(3, false, .int (nI (6 * (j + 1) + 1))), (0, false, va_rf (some sb)), (1, false, va_rf (some (A 17))), (2, false, va_rf (some (B 0)))]) dL_law_635 rfl ((by rw [show 6 * (j + 1) + 1 = 6 * j + 1 + 6 from by omega, ← nI_add (6 * j + 1) 6]; exact congrArg (nI (6 * j + 1) + ·) (by decide))) (by decide) rfl ?_
            refine sp_goto X (pc := 638) (tgt := 28) dL_law_638 (by decide) ?_
            refine sp_pick X [1, 2, 3, 0] (lv' := [(0, false, va_rf (some sb)), (1, false, va_rf (some (A 17))), (2, false, va_rf (some (B 0))), (3, false, .int (nI (6 * (j + 1) + 1)))]) rfl ?_
            refine sp_less X (k' := 7000 * (64 - (j + 1))) (n' := 66000 * (64 - (j + 1))) (by omega) (by omega) ?_
            exact ih _ (by omega) m447 _ _ _ _ _ _ _ _ _ _ _ _ _ _ _ _ _ _ _ _ _ _ (j + 1) hCm447 hVm447 hSm447 hMm447 hUm447 h4m447 hKm447 hNm447 (hXm447.up (by omega)) (by omega) rfl
          · refine sp_tableIn X (pc := 43) (off := 411) (tgt := 454) dL_law_43 (by rw [hsw43]; decide) (by rw [hsw43]; decide) (by rw [hsw43]; decide) (by decide) ?_
            refine sp_aload_n X (pc := 454) (r := some (A 17)) dL_law_454 rfl rfl ?_
            refine sp_aload_n X (pc := 455) (r := some sb) dL_law_455 rfl rfl ?_
            refine sp_iload_n X (pc := 456) (x := nI (6 * j + 1)) dL_law_456 rfl rfl ?_
            refine sp_iconst X (pc := 457) (v := 1) dL_law_457 (by decide) ?_
            refine sp_iadd X (pc := 458) dL_law_458 ?_
            rw [show ((nI (6 * j + 1)) + 1) = (nI ((6 * j + 1) + 1)) from (nI_add (6 * j + 1) 1)]
            refine sp_iaload X (pc := 459) (a := sb) rfl (Or.inr hSm1.1) (sp_in ((6 * j + 1) + 1) hSm1.2.1 (by omega) (by omega)) dL_law_459 ?_
            rw [show (m1.aI sb (nI ((6 * j + 1) + 1)).toNatClampNeg) = (xs ((6 * j + 1) + 1)) from (hSm1.rd (by omega))]
            obtain ⟨NA, BA, hcZ⟩ := hKm1.2.1
            refine sp_callV X (pc := 460) (mc := 6810) (ms := 27240) (b := (A 17)) (c := 12) (r := some (A 17)) (As := [.int (xs ((6 * j + 1) + 1))]) (rest := []) (c_SP_lead l G _ hG hCm1.1 hcZ hXm1.1 hCm1.2.2.2.2.2.2.1 (fun q hq => (hUm1.2.2 q hq).2)) ok_SP_lead rfl (hCm1.1.S.k 17 13 (by decide)) (by decide) rfl lk_Law_69 rfl rfl (Nat.zero_le _) (Nat.le_of_ble_eq_true rfl) (Nat.le_of_ble_eq_true rfl) (by omega) (by omega) dL_law_460 (sp_kI fun v460 m460 hp460 => ?_)
            obtain ⟨hI2, hF2, hld⟩ := hp460
            obtain ⟨hCm460, hVm460, hSm460, rkm460⟩ := sp_stepF hCm1 hVm1 hSm1 hI2 hF2 (hF2.bn hCm1.1 hCm1.2.2.1 (by unfold sp_15; omega) (by unfold sp_15; omega)) (by unfold sp_15; omega) (by unfold sp_15; omega) (by unfold sp_15; omega)
            have hMm460 := sp_MC.rk hMm1 rkm460 (by decide) (by decide) (by decide) (by decide) (by decide)
            have hUm460 := hUm1
            have h4m460 := h4m1
            have hNm460 := hNm1.rk rkm460 (by decide)
            have hKm460 := hKm1.F hCm1.1 hF2 (by unfold sp_15; decide) ⟨by unfold sp_15; decide, by unfold sp_15; decide, by unfold sp_15; decide, by unfold sp_15; decide, by unfold sp_15; decide, by unfold sp_15; decide, by unfold sp_15; decide⟩ (by unfold sp_15; decide)
            refine sp_pop X (pc := 463) dL_law_463 rfl ?_
            refine sp_aload_n X (pc := 464) (r := some (B 0)) dL_law_464 rfl rfl ?_
            refine sp_aload_n X (pc := 465) (r := some sb) dL_law_465 rfl rfl ?_
            refine sp_iload_n X (pc := 466) (x := nI (6 * j + 1)) dL_law_466 rfl rfl ?_
            refine sp_iconst X (pc := 467) (v := 1) dL_law_467 (by decide) ?_
            refine sp_iadd X (pc := 468) dL_law_468 ?_
            rw [show ((nI (6 * j + 1)) + 1) = (nI ((6 * j + 1) + 1)) from (nI_add (6 * j + 1) 1)]
            refine sp_iaload X (pc := 469) (a := sb) rfl (Or.inr hSm460.1) (sp_in ((6 * j + 1) + 1) hSm460.2.1 (by omega) (by omega)) dL_law_469 ?_
            rw [show (m460.aI sb (nI ((6 * j + 1) + 1)).toNatClampNeg) = (xs ((6 * j + 1) + 1)) from (hSm460.rd (by omega))]
            have hWm := hNm1.W hXm1
            have hnZ := hNm1.1.1.1
            have hbZ := hNm1.1.1.2
            refine sp_callV X (pc := 470) (mc := 0) (ms := 0) (b := (B 0)) (c := 13) (r := some (B 0)) (As := [.int (xs ((6 * j + 1) + 1))]) (rest := []) (c_Mo_lead l G _ hVm460 hNm460.1.2.1 hWm hMm460.2 hUm1.2.2 hCm1.2.2.2.2.2.2.2.2.1.TU) ok_Mo_lead rfl hVm460.r.o (by decide) rfl lk_Law_72 rfl rfl (Nat.zero_le _) (Nat.le_of_ble_eq_true rfl) (Nat.le_of_ble_eq_true rfl) (Nat.zero_le _) (Nat.zero_le _) dL_law_470 (sp_kI fun v470 m470 hp470 => ?_)
            obtain ⟨⟨w2, hV2, rk2⟩, hld2⟩ := hp470
            have hE470 := hld.det hXm1.1.1.1.2 (by rw [← hnZ]; exact hld2)
            obtain ⟨hCm470, hVm470, hSm470⟩ := sp_stepM hCm460 hVm460 hSm460 hRI hA8 hV2
            have hKm470 := sp_KZ.mf (fun a z => hVm460.row z) hKm460 hCm460.1 hV2.mf hRI
            have hMm470 := sp_MC.rk hMm460 rk2 (by decide) (by decide) (by decide) (by decide) (by decide)
            have hUm470 := hUm460
            have h4m470 := h4m460
            have hNm470 := hNm460.rk rk2 (by decide)
            have hXm470 := hXm1
            refine sp_pop X (pc := 473) dL_law_473 rfl ?_
            refine sp_goto X (pc := 474) (tgt := 635) dL_law_474 (by decide) ?_
            refine sp_iinc X (pc := 635) (v := (nI (6 * (j + 1) + 1))) (lv' := [(3, false, .int (nI (6 * (j + 1) + 1))), (0, false, va_rf (some sb)), (1, false, va_rf (some (A 17))), (2, false, va_rf (some (B 0)))]) dL_law_635 rfl ((by rw [show 6 * (j + 1) + 1 = 6 * j + 1 + 6 from by omega, ← nI_add (6 * j + 1) 6]; exact congrArg (nI (6 * j + 1) + ·) (by decide))) (by decide) rfl ?_
            refine sp_goto X (pc := 638) (tgt := 28) dL_law_638 (by decide) ?_
            refine sp_pick X [1, 2, 3, 0] (lv' := [(0, false, va_rf (some sb)), (1, false, va_rf (some (A 17))), (2, false, va_rf (some (B 0))), (3, false, .int (nI (6 * (j + 1) + 1)))]) rfl ?_
            refine sp_less X (k' := 7000 * (64 - (j + 1))) (n' := 66000 * (64 - (j + 1))) (by omega) (by omega) ?_
            exact ih _ (by omega) m470 _ _ _ _ _ _ _ _ _ _ _ _ _ _ _ _ _ _ _ _ _ _ (j + 1) hCm470 hVm470 hSm470 hMm470 hUm470 h4m470 hKm470 hNm470 (hXm470.up (by omega)) (by omega) rfl
          · refine sp_tableIn X (pc := 43) (off := 434) (tgt := 477) dL_law_43 (by rw [hsw43]; decide) (by rw [hsw43]; decide) (by rw [hsw43]; decide) (by decide) ?_
            refine sp_aload_n X (pc := 477) (r := some (A 17)) dL_law_477 rfl rfl ?_
            refine sp_aload_n X (pc := 478) (r := some sb) dL_law_478 rfl rfl ?_
            refine sp_iload_n X (pc := 479) (x := nI (6 * j + 1)) dL_law_479 rfl rfl ?_
            refine sp_iconst X (pc := 480) (v := 1) dL_law_480 (by decide) ?_
            refine sp_iadd X (pc := 481) dL_law_481 ?_
            rw [show ((nI (6 * j + 1)) + 1) = (nI ((6 * j + 1) + 1)) from (nI_add (6 * j + 1) 1)]
            refine sp_iaload X (pc := 482) (a := sb) rfl (Or.inr hSm1.1) (sp_in ((6 * j + 1) + 1) hSm1.2.1 (by omega) (by omega)) dL_law_482 ?_
            rw [show (m1.aI sb (nI ((6 * j + 1) + 1)).toNatClampNeg) = (xs ((6 * j + 1) + 1)) from (hSm1.rd (by omega))]
            obtain ⟨NA, BA, hcZ⟩ := hKm1.2.1
            refine sp_callV X (pc := 483) (mc := 0) (ms := 0) (b := (A 17)) (c := 12) (r := some (A 17)) (As := [.int (xs ((6 * j + 1) + 1))]) (rest := []) (c_SP_find l G _ hG hCm1.1 hcZ hXm1.1 hCm1.2.2.2.2.2.2.2.1 hVm1.hp hCm1.2.2.2.2.2.2.1) ok_SP_find rfl (hCm1.1.S.k 17 13 (by decide)) (by decide) rfl lk_Law_73 rfl rfl (Nat.zero_le _) (Nat.le_of_ble_eq_true rfl) (Nat.le_of_ble_eq_true rfl) (Nat.zero_le _) (Nat.zero_le _) dL_law_483 (sp_kI fun v483 m483 hp483 => ?_)
            obtain ⟨hp483, hp483m⟩ := hp483; replace hp483m := (hp483m).symm; subst hp483m
            refine sp_pop X (pc := 486) dL_law_486 rfl ?_
            refine sp_aload_n X (pc := 487) (r := some (B 0)) dL_law_487 rfl rfl ?_
            refine sp_aload_n X (pc := 488) (r := some sb) dL_law_488 rfl rfl ?_
            refine sp_iload_n X (pc := 489) (x := nI (6 * j + 1)) dL_law_489 rfl rfl ?_
            refine sp_iconst X (pc := 490) (v := 1) dL_law_490 (by decide) ?_
            refine sp_iadd X (pc := 491) dL_law_491 ?_
            rw [show ((nI (6 * j + 1)) + 1) = (nI ((6 * j + 1) + 1)) from (nI_add (6 * j + 1) 1)]
            refine sp_iaload X (pc := 492) (a := sb) rfl (Or.inr hSm1.1) (sp_in ((6 * j + 1) + 1) hSm1.2.1 (by omega) (by omega)) dL_law_492 ?_
            rw [show (m1.aI sb (nI ((6 * j + 1) + 1)).toNatClampNeg) = (xs ((6 * j + 1) + 1)) from (hSm1.rd (by omega))]
            have hWm := hNm1.W hXm1
            have hnZ := hNm1.1.1.1
            have hbZ := hNm1.1.1.2
            refine sp_callV X (pc := 493) (mc := 0) (ms := 0) (b := (B 0)) (c := 13) (r := some (B 0)) (As := [.int (xs ((6 * j + 1) + 1))]) (rest := []) (c_Mo_find l G _ hVm1 hNm1.1.2.1 hWm hMm1.1 hUm1.2.1) ok_Mo_find rfl hVm1.r.o (by decide) rfl lk_Law_76 rfl rfl (Nat.zero_le _) (Nat.le_of_ble_eq_true rfl) (Nat.le_of_ble_eq_true rfl) (Nat.zero_le _) (Nat.zero_le _) dL_law_493 (sp_kI fun v493 m493 hp493 => ?_)
            obtain ⟨⟨w2, hV2, rk2⟩, hfd2⟩ := hp493
            have hE493 := hp483.det hVm1.hp (by rw [← hnZ]; exact hfd2)
            obtain ⟨hCm493, hVm493, hSm493⟩ := sp_stepM hCm1 hVm1 hSm1 hRI hA8 hV2
            have hKm493 := sp_KZ.mf (fun a z => hVm1.row z) hKm1 hCm1.1 hV2.mf hRI
            have hMm493 := sp_MC.rk hMm1 rk2 (by decide) (by decide) (by decide) (by decide) (by decide)
            have hUm493 := hUm1
            have h4m493 := h4m1
            have hNm493 := hNm1.rk rk2 (by decide)
            have hXm493 := hXm1
            refine sp_pop X (pc := 496) dL_law_496 rfl ?_
            refine sp_goto X (pc := 497) (tgt := 635) dL_law_497 (by decide) ?_
            refine sp_iinc X (pc := 635) (v := (nI (6 * (j + 1) + 1))) (lv' := [(3, false, .int (nI (6 * (j + 1) + 1))), (0, false, va_rf (some sb)), (1, false, va_rf (some (A 17))), (2, false, va_rf (some (B 0)))]) dL_law_635 rfl ((by rw [show 6 * (j + 1) + 1 = 6 * j + 1 + 6 from by omega, ← nI_add (6 * j + 1) 6]; exact congrArg (nI (6 * j + 1) + ·) (by decide))) (by decide) rfl ?_
            refine sp_goto X (pc := 638) (tgt := 28) dL_law_638 (by decide) ?_
            refine sp_pick X [1, 2, 3, 0] (lv' := [(0, false, va_rf (some sb)), (1, false, va_rf (some (A 17))), (2, false, va_rf (some (B 0))), (3, false, .int (nI (6 * (j + 1) + 1)))]) rfl ?_
            refine sp_less X (k' := 7000 * (64 - (j + 1))) (n' := 66000 * (64 - (j + 1))) (by omega) (by omega) ?_
            exact ih _ (by omega) m493 _ _ _ _ _ _ _ _ _ _ _ _ _ _ _ _ _ _ _ _ _ _ (j + 1) hCm493 hVm493 hSm493 hMm493 hUm493 h4m493 hKm493 hNm493 (hXm493.up (by omega)) (by omega) rfl
          · refine sp_tableIn X (pc := 43) (off := 457) (tgt := 500) dL_law_43 (by rw [hsw43]; decide) (by rw [hsw43]; decide) (by rw [hsw43]; decide) (by decide) ?_
            refine sp_aload_n X (pc := 500) (r := some (A 17)) dL_law_500 rfl rfl ?_
            refine sp_aload_n X (pc := 501) (r := some sb) dL_law_501 rfl rfl ?_
            refine sp_iload_n X (pc := 502) (x := nI (6 * j + 1)) dL_law_502 rfl rfl ?_
            refine sp_iconst X (pc := 503) (v := 1) dL_law_503 (by decide) ?_
            refine sp_iadd X (pc := 504) dL_law_504 ?_
            rw [show ((nI (6 * j + 1)) + 1) = (nI ((6 * j + 1) + 1)) from (nI_add (6 * j + 1) 1)]
            refine sp_iaload X (pc := 505) (a := sb) rfl (Or.inr hSm1.1) (sp_in ((6 * j + 1) + 1) hSm1.2.1 (by omega) (by omega)) dL_law_505 ?_
            rw [show (m1.aI sb (nI ((6 * j + 1) + 1)).toNatClampNeg) = (xs ((6 * j + 1) + 1)) from (hSm1.rd (by omega))]
            refine sp_aload_n X (pc := 506) (r := some sb) dL_law_506 rfl rfl ?_
            refine sp_iload_n X (pc := 507) (x := nI (6 * j + 1)) dL_law_507 rfl rfl ?_
            refine sp_iconst X (pc := 508) (v := 2) dL_law_508 (by decide) ?_
            refine sp_iadd X (pc := 509) dL_law_509 ?_
            rw [show ((nI (6 * j + 1)) + 2) = (nI ((6 * j + 1) + 2)) from (nI_add (6 * j + 1) 2)]
            refine sp_iaload X (pc := 510) (a := sb) rfl (Or.inr hSm1.1) (sp_in ((6 * j + 1) + 2) hSm1.2.1 (by omega) (by omega)) dL_law_510 ?_
            rw [show (m1.aI sb (nI ((6 * j + 1) + 2)).toNatClampNeg) = (xs ((6 * j + 1) + 2)) from (hSm1.rd (by omega))]
            refine sp_callV X (pc := 511) (mc := 0) (ms := 0) (b := (A 17)) (c := 12) (r := some (A 17)) (As := [.int (xs ((6 * j + 1) + 1)), .int (xs ((6 * j + 1) + 2))]) (rest := []) (c_SP_node l G _ hG hCm1.1) ok_SP_node rfl (hCm1.1.S.k 17 13 (by decide)) (by decide) rfl lk_Law_77 rfl rfl (Nat.zero_le _) (Nat.le_of_ble_eq_true rfl) (Nat.le_of_ble_eq_true rfl) (Nat.zero_le _) (Nat.zero_le _) dL_law_511 (sp_kI fun v511 m511 hp511 => ?_)
            obtain ⟨hp511, hp511m⟩ := hp511; replace hp511m := (hp511m).symm; subst hp511m
            refine sp_pop X (pc := 514) dL_law_514 rfl ?_
            refine sp_aload_n X (pc := 515) (r := some (B 0)) dL_law_515 rfl rfl ?_
            refine sp_aload_n X (pc := 516) (r := some sb) dL_law_516 rfl rfl ?_
            refine sp_iload_n X (pc := 517) (x := nI (6 * j + 1)) dL_law_517 rfl rfl ?_
            refine sp_iconst X (pc := 518) (v := 1) dL_law_518 (by decide) ?_
            refine sp_iadd X (pc := 519) dL_law_519 ?_
            rw [show ((nI (6 * j + 1)) + 1) = (nI ((6 * j + 1) + 1)) from (nI_add (6 * j + 1) 1)]
            refine sp_iaload X (pc := 520) (a := sb) rfl (Or.inr hSm1.1) (sp_in ((6 * j + 1) + 1) hSm1.2.1 (by omega) (by omega)) dL_law_520 ?_
            rw [show (m1.aI sb (nI ((6 * j + 1) + 1)).toNatClampNeg) = (xs ((6 * j + 1) + 1)) from (hSm1.rd (by omega))]
            refine sp_aload_n X (pc := 521) (r := some sb) dL_law_521 rfl rfl ?_
            refine sp_iload_n X (pc := 522) (x := nI (6 * j + 1)) dL_law_522 rfl rfl ?_
            refine sp_iconst X (pc := 523) (v := 2) dL_law_523 (by decide) ?_
            refine sp_iadd X (pc := 524) dL_law_524 ?_
            rw [show ((nI (6 * j + 1)) + 2) = (nI ((6 * j + 1) + 2)) from (nI_add (6 * j + 1) 2)]
            refine sp_iaload X (pc := 525) (a := sb) rfl (Or.inr hSm1.1) (sp_in ((6 * j + 1) + 2) hSm1.2.1 (by omega) (by omega)) dL_law_525 ?_
            rw [show (m1.aI sb (nI ((6 * j + 1) + 2)).toNatClampNeg) = (xs ((6 * j + 1) + 2)) from (hSm1.rd (by omega))]
            refine sp_callV X (pc := 526) (mc := 0) (ms := 0) (b := (B 0)) (c := 13) (r := some (B 0)) (As := [.int (xs ((6 * j + 1) + 1)), .int (xs ((6 * j + 1) + 2))]) (rest := []) (c_Mo_node l G _ hVm1) ok_Mo_node rfl hVm1.r.o (by decide) rfl lk_Law_80 rfl rfl (Nat.zero_le _) (Nat.le_of_ble_eq_true rfl) (Nat.le_of_ble_eq_true rfl) (Nat.zero_le _) (Nat.zero_le _) dL_law_526 (sp_kI fun v526 m526 hp526 => ?_)
            obtain ⟨hp526, hp526m⟩ := hp526; replace hp526m := (hp526m).symm; subst hp526m
            refine sp_pop X (pc := 529) dL_law_529 rfl ?_
            refine sp_goto X (pc := 530) (tgt := 635) dL_law_530 (by decide) ?_
            refine sp_iinc X (pc := 635) (v := (nI (6 * (j + 1) + 1))) (lv' := [(3, false, .int (nI (6 * (j + 1) + 1))), (0, false, va_rf (some sb)), (1, false, va_rf (some (A 17))), (2, false, va_rf (some (B 0)))]) dL_law_635 rfl ((by rw [show 6 * (j + 1) + 1 = 6 * j + 1 + 6 from by omega, ← nI_add (6 * j + 1) 6]; exact congrArg (nI (6 * j + 1) + ·) (by decide))) (by decide) rfl ?_
            refine sp_goto X (pc := 638) (tgt := 28) dL_law_638 (by decide) ?_
            refine sp_pick X [1, 2, 3, 0] (lv' := [(0, false, va_rf (some sb)), (1, false, va_rf (some (A 17))), (2, false, va_rf (some (B 0))), (3, false, .int (nI (6 * (j + 1) + 1)))]) rfl ?_
            refine sp_less X (k' := 7000 * (64 - (j + 1))) (n' := 66000 * (64 - (j + 1))) (by omega) (by omega) ?_
            exact ih _ (by omega) m1 _ _ _ _ _ _ _ _ _ _ _ _ _ _ _ _ _ _ _ _ _ _ (j + 1) hCm1 hVm1 hSm1 hMm1 hUm1 h4m1 hKm1 hNm1 (hXm1.up (by omega)) (by omega) rfl
          · refine sp_tableIn X (pc := 43) (off := 490) (tgt := 533) dL_law_43 (by rw [hsw43]; decide) (by rw [hsw43]; decide) (by rw [hsw43]; decide) (by decide) ?_
            refine sp_aload_n X (pc := 533) (r := some (A 17)) dL_law_533 rfl rfl ?_
            refine sp_aload_n X (pc := 534) (r := some sb) dL_law_534 rfl rfl ?_
            refine sp_iload_n X (pc := 535) (x := nI (6 * j + 1)) dL_law_535 rfl rfl ?_
            refine sp_iconst X (pc := 536) (v := 1) dL_law_536 (by decide) ?_
            refine sp_iadd X (pc := 537) dL_law_537 ?_
            rw [show ((nI (6 * j + 1)) + 1) = (nI ((6 * j + 1) + 1)) from (nI_add (6 * j + 1) 1)]
            refine sp_iaload X (pc := 538) (a := sb) rfl (Or.inr hSm1.1) (sp_in ((6 * j + 1) + 1) hSm1.2.1 (by omega) (by omega)) dL_law_538 ?_
            rw [show (m1.aI sb (nI ((6 * j + 1) + 1)).toNatClampNeg) = (xs ((6 * j + 1) + 1)) from (hSm1.rd (by omega))]
            refine sp_aload_n X (pc := 539) (r := some sb) dL_law_539 rfl rfl ?_
            refine sp_iload_n X (pc := 540) (x := nI (6 * j + 1)) dL_law_540 rfl rfl ?_
            refine sp_iconst X (pc := 541) (v := 2) dL_law_541 (by decide) ?_
            refine sp_iadd X (pc := 542) dL_law_542 ?_
            rw [show ((nI (6 * j + 1)) + 2) = (nI ((6 * j + 1) + 2)) from (nI_add (6 * j + 1) 2)]
            refine sp_iaload X (pc := 543) (a := sb) rfl (Or.inr hSm1.1) (sp_in ((6 * j + 1) + 2) hSm1.2.1 (by omega) (by omega)) dL_law_543 ?_
            rw [show (m1.aI sb (nI ((6 * j + 1) + 2)).toNatClampNeg) = (xs ((6 * j + 1) + 2)) from (hSm1.rd (by omega))]
            obtain ⟨NA, BA, hcZ⟩ := hKm1.2.1
            refine sp_callV X (pc := 544) (mc := 0) (ms := 0) (b := (A 17)) (c := 12) (r := some (A 17)) (As := [.int (xs ((6 * j + 1) + 1)), .int (xs ((6 * j + 1) + 2))]) (rest := []) (c_SP_name l G _ hG hCm1.1 hcZ hXm1.1) ok_SP_name rfl (hCm1.1.S.k 17 13 (by decide)) (by decide) rfl lk_Law_81 rfl rfl (Nat.zero_le _) (Nat.le_of_ble_eq_true rfl) (Nat.le_of_ble_eq_true rfl) (Nat.zero_le _) (Nat.zero_le _) dL_law_544 (sp_kI fun v544 m544 hp544 => ?_)
            obtain ⟨hp544, hp544m⟩ := hp544; replace hp544m := (hp544m).symm; subst hp544m
            refine sp_pop X (pc := 547) dL_law_547 rfl ?_
            refine sp_aload_n X (pc := 548) (r := some (B 0)) dL_law_548 rfl rfl ?_
            refine sp_aload_n X (pc := 549) (r := some sb) dL_law_549 rfl rfl ?_
            refine sp_iload_n X (pc := 550) (x := nI (6 * j + 1)) dL_law_550 rfl rfl ?_
            refine sp_iconst X (pc := 551) (v := 1) dL_law_551 (by decide) ?_
            refine sp_iadd X (pc := 552) dL_law_552 ?_
            rw [show ((nI (6 * j + 1)) + 1) = (nI ((6 * j + 1) + 1)) from (nI_add (6 * j + 1) 1)]
            refine sp_iaload X (pc := 553) (a := sb) rfl (Or.inr hSm1.1) (sp_in ((6 * j + 1) + 1) hSm1.2.1 (by omega) (by omega)) dL_law_553 ?_
            rw [show (m1.aI sb (nI ((6 * j + 1) + 1)).toNatClampNeg) = (xs ((6 * j + 1) + 1)) from (hSm1.rd (by omega))]
            refine sp_aload_n X (pc := 554) (r := some sb) dL_law_554 rfl rfl ?_
            refine sp_iload_n X (pc := 555) (x := nI (6 * j + 1)) dL_law_555 rfl rfl ?_
            refine sp_iconst X (pc := 556) (v := 2) dL_law_556 (by decide) ?_
            refine sp_iadd X (pc := 557) dL_law_557 ?_
            rw [show ((nI (6 * j + 1)) + 2) = (nI ((6 * j + 1) + 2)) from (nI_add (6 * j + 1) 2)]
            refine sp_iaload X (pc := 558) (a := sb) rfl (Or.inr hSm1.1) (sp_in ((6 * j + 1) + 2) hSm1.2.1 (by omega) (by omega)) dL_law_558 ?_
            rw [show (m1.aI sb (nI ((6 * j + 1) + 2)).toNatClampNeg) = (xs ((6 * j + 1) + 2)) from (hSm1.rd (by omega))]
            have hWm := hNm1.W hXm1
            have hnZ := hNm1.1.1.1
            have hbZ := hNm1.1.1.2
            refine sp_callV X (pc := 559) (mc := 0) (ms := 0) (b := (B 0)) (c := 13) (r := some (B 0)) (As := [.int (xs ((6 * j + 1) + 1)), .int (xs ((6 * j + 1) + 2))]) (rest := []) (c_Mo_name l G _ hVm1 hNm1.1.2.1 hWm) ok_Mo_name rfl hVm1.r.o (by decide) rfl lk_Law_84 rfl rfl (Nat.zero_le _) (Nat.le_of_ble_eq_true rfl) (Nat.le_of_ble_eq_true rfl) (Nat.zero_le _) (Nat.zero_le _) dL_law_559 (sp_kI fun v559 m559 hp559 => ?_)
            obtain ⟨hp559, hp559m⟩ := hp559; replace hp559m := (hp559m).symm; subst hp559m
            have hE559 := hp544.det hXm1.1.1.1.2 hXm1.1.1.len (by rw [← hnZ]; exact hp559)
            refine sp_pop X (pc := 562) dL_law_562 rfl ?_
            refine sp_goto X (pc := 563) (tgt := 635) dL_law_563 (by decide) ?_
            refine sp_iinc X (pc := 635) (v := (nI (6 * (j + 1) + 1))) (lv' := [(3, false, .int (nI (6 * (j + 1) + 1))), (0, false, va_rf (some sb)), (1, false, va_rf (some (A 17))), (2, false, va_rf (some (B 0)))]) dL_law_635 rfl ((by rw [show 6 * (j + 1) + 1 = 6 * j + 1 + 6 from by omega, ← nI_add (6 * j + 1) 6]; exact congrArg (nI (6 * j + 1) + ·) (by decide))) (by decide) rfl ?_
            refine sp_goto X (pc := 638) (tgt := 28) dL_law_638 (by decide) ?_
            refine sp_pick X [1, 2, 3, 0] (lv' := [(0, false, va_rf (some sb)), (1, false, va_rf (some (A 17))), (2, false, va_rf (some (B 0))), (3, false, .int (nI (6 * (j + 1) + 1)))]) rfl ?_
            refine sp_less X (k' := 7000 * (64 - (j + 1))) (n' := 66000 * (64 - (j + 1))) (by omega) (by omega) ?_
            exact ih _ (by omega) m1 _ _ _ _ _ _ _ _ _ _ _ _ _ _ _ _ _ _ _ _ _ _ (j + 1) hCm1 hVm1 hSm1 hMm1 hUm1 h4m1 hKm1 hNm1 (hXm1.up (by omega)) (by omega) rfl
          · refine sp_tableIn X (pc := 43) (off := 523) (tgt := 566) dL_law_43 (by rw [hsw43]; decide) (by rw [hsw43]; decide) (by rw [hsw43]; decide) (by decide) ?_
            refine sp_aload_n X (pc := 566) (r := some (A 17)) dL_law_566 rfl rfl ?_
            refine sp_aload_n X (pc := 567) (r := some sb) dL_law_567 rfl rfl ?_
            refine sp_iload_n X (pc := 568) (x := nI (6 * j + 1)) dL_law_568 rfl rfl ?_
            refine sp_iconst X (pc := 569) (v := 1) dL_law_569 (by decide) ?_
            refine sp_iadd X (pc := 570) dL_law_570 ?_
            rw [show ((nI (6 * j + 1)) + 1) = (nI ((6 * j + 1) + 1)) from (nI_add (6 * j + 1) 1)]
            refine sp_iaload X (pc := 571) (a := sb) rfl (Or.inr hSm1.1) (sp_in ((6 * j + 1) + 1) hSm1.2.1 (by omega) (by omega)) dL_law_571 ?_
            rw [show (m1.aI sb (nI ((6 * j + 1) + 1)).toNatClampNeg) = (xs ((6 * j + 1) + 1)) from (hSm1.rd (by omega))]
            refine sp_aload_n X (pc := 572) (r := some sb) dL_law_572 rfl rfl ?_
            refine sp_iload_n X (pc := 573) (x := nI (6 * j + 1)) dL_law_573 rfl rfl ?_
            refine sp_iconst X (pc := 574) (v := 2) dL_law_574 (by decide) ?_
            refine sp_iadd X (pc := 575) dL_law_575 ?_
            rw [show ((nI (6 * j + 1)) + 2) = (nI ((6 * j + 1) + 2)) from (nI_add (6 * j + 1) 2)]
            refine sp_iaload X (pc := 576) (a := sb) rfl (Or.inr hSm1.1) (sp_in ((6 * j + 1) + 2) hSm1.2.1 (by omega) (by omega)) dL_law_576 ?_
            rw [show (m1.aI sb (nI ((6 * j + 1) + 2)).toNatClampNeg) = (xs ((6 * j + 1) + 2)) from (hSm1.rd (by omega))]
            obtain ⟨NA, BA, hcZ⟩ := hKm1.2.1
            refine sp_callV X (pc := 577) (mc := 0) (ms := 0) (b := (A 17)) (c := 12) (r := some (A 17)) (As := [.int (xs ((6 * j + 1) + 1)), .int (xs ((6 * j + 1) + 2))]) (rest := []) (c_SP_body l G _ hG hCm1.1 hcZ hXm1.1) ok_SP_body rfl (hCm1.1.S.k 17 13 (by decide)) (by decide) rfl lk_Law_85 rfl rfl (Nat.zero_le _) (Nat.le_of_ble_eq_true rfl) (Nat.le_of_ble_eq_true rfl) (Nat.zero_le _) (Nat.zero_le _) dL_law_577 (sp_kL fun v577 m577 hp577 => ?_)
            obtain ⟨hp577, hp577m⟩ := hp577; replace hp577m := (hp577m).symm; subst hp577m
            refine sp_pop2 X (pc := 580) dL_law_580 rfl ?_
            refine sp_aload_n X (pc := 581) (r := some (B 0)) dL_law_581 rfl rfl ?_
            refine sp_aload_n X (pc := 582) (r := some sb) dL_law_582 rfl rfl ?_
            refine sp_iload_n X (pc := 583) (x := nI (6 * j + 1)) dL_law_583 rfl rfl ?_
            refine sp_iconst X (pc := 584) (v := 1) dL_law_584 (by decide) ?_
            refine sp_iadd X (pc := 585) dL_law_585 ?_
            rw [show ((nI (6 * j + 1)) + 1) = (nI ((6 * j + 1) + 1)) from (nI_add (6 * j + 1) 1)]
            refine sp_iaload X (pc := 586) (a := sb) rfl (Or.inr hSm1.1) (sp_in ((6 * j + 1) + 1) hSm1.2.1 (by omega) (by omega)) dL_law_586 ?_
            rw [show (m1.aI sb (nI ((6 * j + 1) + 1)).toNatClampNeg) = (xs ((6 * j + 1) + 1)) from (hSm1.rd (by omega))]
            refine sp_aload_n X (pc := 587) (r := some sb) dL_law_587 rfl rfl ?_
            refine sp_iload_n X (pc := 588) (x := nI (6 * j + 1)) dL_law_588 rfl rfl ?_
            refine sp_iconst X (pc := 589) (v := 2) dL_law_589 (by decide) ?_
            refine sp_iadd X (pc := 590) dL_law_590 ?_
            rw [show ((nI (6 * j + 1)) + 2) = (nI ((6 * j + 1) + 2)) from (nI_add (6 * j + 1) 2)]
            refine sp_iaload X (pc := 591) (a := sb) rfl (Or.inr hSm1.1) (sp_in ((6 * j + 1) + 2) hSm1.2.1 (by omega) (by omega)) dL_law_591 ?_
            rw [show (m1.aI sb (nI ((6 * j + 1) + 2)).toNatClampNeg) = (xs ((6 * j + 1) + 2)) from (hSm1.rd (by omega))]
            refine sp_callV X (pc := 592) (mc := 0) (ms := 0) (b := (B 0)) (c := 13) (r := some (B 0)) (As := [.int (xs ((6 * j + 1) + 1)), .int (xs ((6 * j + 1) + 2))]) (rest := []) (c_Mo_body l G _ hVm1 hNm1.1 hXm1.1) ok_Mo_body rfl hVm1.r.o (by decide) rfl lk_Law_89 rfl rfl (Nat.zero_le _) (Nat.le_of_ble_eq_true rfl) (Nat.le_of_ble_eq_true rfl) (Nat.zero_le _) (Nat.zero_le _) dL_law_592 (sp_kL fun v592 m592 hp592 => ?_)
            obtain ⟨hp592, hp592m⟩ := hp592; replace hp592m := (hp592m).symm; subst hp592m
            have hE592 := hp577.det (by have := hXm1.1.2.2; have := hXm1.1.1.1.2; omega) hp592
            refine sp_pop2 X (pc := 595) dL_law_595 rfl ?_
            refine sp_goto X (pc := 596) (tgt := 635) dL_law_596 (by decide) ?_
            refine sp_iinc X (pc := 635) (v := (nI (6 * (j + 1) + 1))) (lv' := [(3, false, .int (nI (6 * (j + 1) + 1))), (0, false, va_rf (some sb)), (1, false, va_rf (some (A 17))), (2, false, va_rf (some (B 0)))]) dL_law_635 rfl ((by rw [show 6 * (j + 1) + 1 = 6 * j + 1 + 6 from by omega, ← nI_add (6 * j + 1) 6]; exact congrArg (nI (6 * j + 1) + ·) (by decide))) (by decide) rfl ?_
            refine sp_goto X (pc := 638) (tgt := 28) dL_law_638 (by decide) ?_
            refine sp_pick X [1, 2, 3, 0] (lv' := [(0, false, va_rf (some sb)), (1, false, va_rf (some (A 17))), (2, false, va_rf (some (B 0))), (3, false, .int (nI (6 * (j + 1) + 1)))]) rfl ?_
            refine sp_less X (k' := 7000 * (64 - (j + 1))) (n' := 66000 * (64 - (j + 1))) (by omega) (by omega) ?_
            exact ih _ (by omega) m1 _ _ _ _ _ _ _ _ _ _ _ _ _ _ _ _ _ _ _ _ _ _ (j + 1) hCm1 hVm1 hSm1 hMm1 hUm1 h4m1 hKm1 hNm1 (hXm1.up (by omega)) (by omega) rfl
          · refine sp_tableIn X (pc := 43) (off := 556) (tgt := 599) dL_law_43 (by rw [hsw43]; decide) (by rw [hsw43]; decide) (by rw [hsw43]; decide) (by decide) ?_
            refine sp_aload_n X (pc := 599) (r := some (A 17)) dL_law_599 rfl rfl ?_
            obtain ⟨NA, BA, hcZ⟩ := hKm1.2.1
            refine sp_callV X (pc := 600) (mc := 0) (ms := 0) (b := (A 17)) (c := 12) (r := some (A 17)) (As := []) (rest := []) (c_SP_inside l G _ hG hCm1.1 hcZ hXm1.1) ok_SP_inside rfl (hCm1.1.S.k 17 13 (by decide)) (by decide) rfl lk_Law_90 rfl rfl (Nat.zero_le _) (Nat.le_of_ble_eq_true rfl) (Nat.le_of_ble_eq_true rfl) (Nat.zero_le _) (Nat.zero_le _) dL_law_600 (sp_kI fun v600 m600 hp600 => ?_)
            obtain ⟨hp600, hp600m⟩ := hp600; replace hp600m := (hp600m).symm; subst hp600m
            refine sp_pop X (pc := 603) dL_law_603 rfl ?_
            refine sp_aload_n X (pc := 604) (r := some (B 0)) dL_law_604 rfl rfl ?_
            have hWm := hNm1.W hXm1
            have hnZ := hNm1.1.1.1
            have hbZ := hNm1.1.1.2
            refine sp_callV X (pc := 605) (mc := 0) (ms := 0) (b := (B 0)) (c := 13) (r := some (B 0)) (As := []) (rest := []) (c_Mo_inside l G _ hVm1 hNm1.1.2.1 hWm) ok_Mo_inside rfl hVm1.r.o (by decide) rfl lk_Law_94 rfl rfl (Nat.zero_le _) (Nat.le_of_ble_eq_true rfl) (Nat.le_of_ble_eq_true rfl) (Nat.zero_le _) (Nat.zero_le _) dL_law_605 (sp_kI fun v605 m605 hp605 => ?_)
            obtain ⟨hp605, hp605m⟩ := hp605; replace hp605m := (hp605m).symm; subst hp605m
            have hE605 := hp600.trans hp605.symm
            refine sp_pop X (pc := 608) dL_law_608 rfl ?_
            refine sp_goto X (pc := 609) (tgt := 635) dL_law_609 (by decide) ?_
            refine sp_iinc X (pc := 635) (v := (nI (6 * (j + 1) + 1))) (lv' := [(3, false, .int (nI (6 * (j + 1) + 1))), (0, false, va_rf (some sb)), (1, false, va_rf (some (A 17))), (2, false, va_rf (some (B 0)))]) dL_law_635 rfl ((by rw [show 6 * (j + 1) + 1 = 6 * j + 1 + 6 from by omega, ← nI_add (6 * j + 1) 6]; exact congrArg (nI (6 * j + 1) + ·) (by decide))) (by decide) rfl ?_
            refine sp_goto X (pc := 638) (tgt := 28) dL_law_638 (by decide) ?_
            refine sp_pick X [1, 2, 3, 0] (lv' := [(0, false, va_rf (some sb)), (1, false, va_rf (some (A 17))), (2, false, va_rf (some (B 0))), (3, false, .int (nI (6 * (j + 1) + 1)))]) rfl ?_
            refine sp_less X (k' := 7000 * (64 - (j + 1))) (n' := 66000 * (64 - (j + 1))) (by omega) (by omega) ?_
            exact ih _ (by omega) m1 _ _ _ _ _ _ _ _ _ _ _ _ _ _ _ _ _ _ _ _ _ _ (j + 1) hCm1 hVm1 hSm1 hMm1 hUm1 h4m1 hKm1 hNm1 (hXm1.up (by omega)) (by omega) rfl
          · refine sp_tableIn X (pc := 43) (off := 569) (tgt := 612) dL_law_43 (by rw [hsw43]; decide) (by rw [hsw43]; decide) (by rw [hsw43]; decide) (by decide) ?_
            refine sp_aload_n X (pc := 612) (r := some (A 17)) dL_law_612 rfl rfl ?_
            refine sp_aload_n X (pc := 613) (r := some sb) dL_law_613 rfl rfl ?_
            refine sp_iload_n X (pc := 614) (x := nI (6 * j + 1)) dL_law_614 rfl rfl ?_
            refine sp_iconst X (pc := 615) (v := 1) dL_law_615 (by decide) ?_
            refine sp_iadd X (pc := 616) dL_law_616 ?_
            rw [show ((nI (6 * j + 1)) + 1) = (nI ((6 * j + 1) + 1)) from (nI_add (6 * j + 1) 1)]
            refine sp_iaload X (pc := 617) (a := sb) rfl (Or.inr hSm1.1) (sp_in ((6 * j + 1) + 1) hSm1.2.1 (by omega) (by omega)) dL_law_617 ?_
            rw [show (m1.aI sb (nI ((6 * j + 1) + 1)).toNatClampNeg) = (xs ((6 * j + 1) + 1)) from (hSm1.rd (by omega))]
            obtain ⟨NA, BA, hcZ⟩ := hKm1.2.1
            obtain ⟨e2, li2, -⟩ := id hCm1.2.2.2.2.2.2.2.1
            obtain ⟨e3, li3, -⟩ := id hCm1.2.2.2.2.2.2.2.2.1
            obtain ⟨e4, li4, -⟩ := id hKm1.1
            refine sp_callV X (pc := 618) (mc := 0) (ms := 0) (b := (A 17)) (c := 12) (r := some (A 17)) (As := [.int (xs ((6 * j + 1) + 1))]) (rest := []) (c_SP_told l G _ hG hCm1.1 hcZ hXm1.1 li2 li3 li4) ok_SP_told rfl (hCm1.1.S.k 17 13 (by decide)) (by decide) rfl lk_Law_95 rfl rfl (Nat.zero_le _) (Nat.le_of_ble_eq_true rfl) (Nat.le_of_ble_eq_true rfl) (Nat.zero_le _) (Nat.zero_le _) dL_law_618 (sp_kI fun v618 m618 hp618 => ?_)
            obtain ⟨hp618, hp618m⟩ := hp618; replace hp618m := (hp618m).symm; subst hp618m
            rw [hKm1.2.2] at hp618
            refine sp_aload_n X (pc := 621) (r := some (B 0)) dL_law_621 rfl rfl ?_
            refine sp_aload_n X (pc := 622) (r := some sb) dL_law_622 rfl rfl ?_
            refine sp_iload_n X (pc := 623) (x := nI (6 * j + 1)) dL_law_623 rfl rfl ?_
            refine sp_iconst X (pc := 624) (v := 1) dL_law_624 (by decide) ?_
            refine sp_iadd X (pc := 625) dL_law_625 ?_
            rw [show ((nI (6 * j + 1)) + 1) = (nI ((6 * j + 1) + 1)) from (nI_add (6 * j + 1) 1)]
            refine sp_iaload X (pc := 626) (a := sb) rfl (Or.inr hSm1.1) (sp_in ((6 * j + 1) + 1) hSm1.2.1 (by omega) (by omega)) dL_law_626 ?_
            rw [show (m1.aI sb (nI ((6 * j + 1) + 1)).toNatClampNeg) = (xs ((6 * j + 1) + 1)) from (hSm1.rd (by omega))]
            have hWm := hNm1.W hXm1
            have hnZ := hNm1.1.1.1
            have hbZ := hNm1.1.1.2
            refine sp_callV X (pc := 627) (mc := 0) (ms := 0) (b := (B 0)) (c := 13) (r := some (B 0)) (As := [.int (xs ((6 * j + 1) + 1))]) (rest := [.int v618]) (c_Mo_told l G _ hVm1) ok_Mo_told rfl hVm1.r.o (by decide) rfl lk_Law_98 rfl rfl (by simp [sp_cat_rf, sp_cat_i, sp_cat_l]) (Nat.le_of_ble_eq_true rfl) (Nat.le_of_ble_eq_true rfl) (Nat.zero_le _) (Nat.zero_le _) dL_law_627 (sp_kI fun v627 m627 hp627 => ?_)
            obtain ⟨hp627, hp627m⟩ := hp627; replace hp627m := (hp627m).symm; subst hp627m
            have hE627 := hp618.det (by unfold pu_told; rw [← hnZ, ← hbZ, ← hNm1.1.2.2.2.2.1, ← hNm1.1.2.2.2.2.2.1, ← hNm1.2.2]; exact hp627)
            refine sp_icmp_eq X (pc := 630) (tgt := 635) dL_law_630 (by decide) (fun hb630 => ?_) (fun hb630 => ?_)
            · refine sp_iinc X (pc := 635) (v := (nI (6 * (j + 1) + 1))) (lv' := [(3, false, .int (nI (6 * (j + 1) + 1))), (0, false, va_rf (some sb)), (1, false, va_rf (some (A 17))), (2, false, va_rf (some (B 0)))]) dL_law_635 rfl ((by rw [show 6 * (j + 1) + 1 = 6 * j + 1 + 6 from by omega, ← nI_add (6 * j + 1) 6]; exact congrArg (nI (6 * j + 1) + ·) (by decide))) (by decide) rfl ?_
              refine sp_goto X (pc := 638) (tgt := 28) dL_law_638 (by decide) ?_
              refine sp_pick X [1, 2, 3, 0] (lv' := [(0, false, va_rf (some sb)), (1, false, va_rf (some (A 17))), (2, false, va_rf (some (B 0))), (3, false, .int (nI (6 * (j + 1) + 1)))]) rfl ?_
              refine sp_less X (k' := 7000 * (64 - (j + 1))) (n' := 66000 * (64 - (j + 1))) (by omega) (by omega) ?_
              exact ih _ (by omega) m1 _ _ _ _ _ _ _ _ _ _ _ _ _ _ _ _ _ _ _ _ _ _ (j + 1) hCm1 hVm1 hSm1 hMm1 hUm1 h4m1 hKm1 hNm1 (hXm1.up (by omega)) (by omega) rfl
            · exact absurd hE627 hb630 --stop
  exact loop28 _ m D R l0 l1 d n b p t e ws vq vm vl vs vA vE PT TT E Z ls j hC hV hS hM hU h4 hK hN2 hX2 hj rfl
set_option maxHeartbeats 4000000 in
set_option maxRecDepth 20000 in
theorem sp_law_start {l : Launch} {G : sp_G} {w : sp_T} (X : sp_X l G "SafePathsLaw" cL_law 4 false ret room_1 none w) (hG : sp_GS G) {sb N : Nat} {xs : Nat → Int32} (hN : N ≤ 385) (hend : ∀ k n m lv, w k n m 642 lv [.int 1]) {m : sp_M} (hwf : sp_wf m) (hJ : sp_J G (fun _ => False) sp_E0 m) (hS : sp_SI m sb N xs) (s4t : m.ty (G.sk 4) = 24) (s4l : m.ln (G.sk 4) = 0) (s5t : m.ty (G.sk 5) = 24) (s5l : m.ln (G.sk 5) = 3) (s6t : m.ty (G.sk 6) = 24) (s6l : m.ln (G.sk 6) = 4) (s7t : m.ty (G.sk 7) = 24) (s7l : m.ln (G.sk 7) = 3) (s5c : ∀ j, j < 3 → m.aI (G.sk 5) j = ([111, 117, 116] : List Int32).getD j 0) (s6c : ∀ j, j < 4 → m.aI (G.sk 6) j = ([104, 111, 109, 101] : List Int32).getD j 0) (s7c : ∀ j, j < 3 → m.aI (G.sk 7) j = ([107, 101, 121] : List Int32).getD j 0) : w 600000 7302250 m 0 [(0, false, va_rf (some sb))] [] := by
  obtain ⟨x1, hx1⟩ : ∃ a, a = m.nx := ⟨_, rfl⟩
  refine sp_new X (pc := 0) (c := 12) (N := 9) (by decide) rfl cl_Law_7 in_12 it_12 (by decide) (by decide) dL_law_0 ?_
  rw [← hx1]
  obtain ⟨c1, hc1⟩ : ∃ c, c = m.newO 12 := ⟨_, rfl⟩
  rw [← hc1]
  have t1 : c1.ty x1 = 13 := by rw [hc1, hx1, sp_newO_ty, if_pos rfl]
  have J1 : sp_J G (fun _ => False) (sp_E1 sp_E0 x1) c1 := by subst hx1; rw [hc1]; exact hJ.newO0 hwf 12
  have J1 : sp_J G (fun _ => False) sp_E0 c1 := J1.drop (fun h => by omega) (fun h => by omega) (fun h => by omega) (fun h => by omega) (fun h => by omega) (fun h => by omega)
  have w1 : sp_wf c1 := by rw [hc1]; exact hwf.newO 12
  have f1 : sp_fx m c1 sp_w0 := by rw [hc1]; exact (sp_fx.refl m sp_w0).newO 12
  have g1 : m.nx ≤ x1 := by rw [hx1]; exact Nat.le_refl _
  have hSc1 : sp_SI c1 sb N xs := hS.fx hwf f1 (fun z => z)
  clear hc1
  refine sp_dup X (pc := 3) dL_law_3 (sp_cat_rf _) ?_
  refine sp_aload_n X (pc := 4) (r := some sb) dL_law_4 rfl rfl ?_
  refine sp_iconst X (pc := 5) (v := 0) dL_law_5 (by decide) ?_
  refine sp_callS X (pc := 6) (mc := 0) (ms := 0) (As := [va_rf (some sb), .int 0]) (rest := [va_rf (some x1), va_rf (some x1)]) (c_Law_cell l G _ hSc1 hN) ok_Law_cell lk_Law_9 rfl rfl (by simp [sp_cat_rf, sp_cat_i, sp_cat_l]) (Nat.le_of_ble_eq_true rfl) (Nat.le_of_ble_eq_true rfl) (Nat.zero_le _) (Nat.zero_le _) dL_law_6 (sp_kI fun v6 m6 hp6 => ?_)
  obtain ⟨hp6v, hp6⟩ := hp6; replace hp6 := (hp6).symm; subst hp6; replace hp6v := (hp6v).symm; subst hp6v
  refine sp_callI X (pc := 9) (mc := 40) (ms := 400) (b := x1) (r := some x1) (As := [.int (sp_cel N xs)]) (rest := [va_rf (some x1)]) (c_SP_init l G _ (m0 := m) (P := fun _ => False) hG J1 w1 (fun a z => z.elim) f1 t1 g1 (f1.ty hwf s4t (by decide)) ((f1.ln hwf s4t (by decide)).trans s4l) (f1.ty hwf s5t (by decide)) ((f1.ln hwf s5t (by decide)).trans s5l) (f1.ty hwf s6t (by decide)) ((f1.ln hwf s6t (by decide)).trans s6l) (f1.ty hwf s7t (by decide)) ((f1.ln hwf s7t (by decide)).trans s7l) (fun j hj => by rw [(f1.2.2.2.2.2 _ (hwf _ (by rw [s5t]; decide)) (fun z => z)).1]; exact s5c j hj) (fun j hj => by rw [(f1.2.2.2.2.2 _ (hwf _ (by rw [s6t]; decide)) (fun z => z)).1]; exact s6c j hj) (fun j hj => by rw [(f1.2.2.2.2.2 _ (hwf _ (by rw [s7t]; decide)) (fun z => z)).1]; exact s7c j hj)) ok_SP_init rfl rfl lk_Law_15 rfl rfl (by simp [sp_cat_rf, sp_cat_i, sp_cat_l]) (Nat.le_of_ble_eq_true rfl) (Nat.le_of_ble_eq_true rfl) (by decide) (by decide) dL_law_9 (sp_kV fun m9 hp9 => ?_)
  obtain ⟨A, hA17, hI9, hb9, f9, d9, p9, t9, z9, k09, k19, hR9, l776, NA9, BA9, hcZ9⟩ := hp9
  subst hA17
  have hS9 : sp_SI m9 sb N xs := hS.fx hwf f9 (fun z => z)
  have hO9 : sp_nob G m9 := ⟨f9.ty hwf s4t (by decide), (f9.ln hwf s4t (by decide)).trans s4l⟩
  refine sp_astore_n X (pc := 12) (lv' := [(1, false, va_rf (some (A 17))), (0, false, va_rf (some sb))]) dL_law_12 rfl (by decide) rfl ?_
  obtain ⟨x2, hx2⟩ : ∃ a, a = m9.nx := ⟨_, rfl⟩
  refine sp_new X (pc := 13) (c := 13) (N := 42) (by decide) rfl cl_Law_18 in_13 it_13 (by decide) (by decide) dL_law_13 ?_
  rw [← hx2]
  obtain ⟨c2, hc2⟩ : ∃ c, c = m9.newO 13 := ⟨_, rfl⟩
  rw [← hc2]
  have t2 : c2.ty x2 = 14 := by rw [hc2, hx2, sp_newO_ty, if_pos rfl]
  have J2 : sp_J G (sp_Pw (fun _ => False) (A 8)) (sp_E1 sp_E0 x2) c2 := by subst hx2; rw [hc2]; exact hI9.J.newO0 hI9.wf 13
  have J2 : sp_J G (sp_Pw (fun _ => False) (A 8)) sp_E0 c2 := J2.drop (fun h => by omega) (fun h => by omega) (fun h => by omega) (fun h => by omega) (fun h => by omega) (fun h => by omega)
  have w2 : sp_wf c2 := by rw [hc2]; exact hI9.wf.newO 13
  have f2 : sp_fx m9 c2 sp_w0 := by rw [hc2]; exact (sp_fx.refl m9 sp_w0).newO 13
  have g2 : m9.nx ≤ x2 := by rw [hx2]; exact Nat.le_refl _
  have z2 : ∀ k, c2.fI k x2 = 0 := fun k => by rw [hc2, hx2, sp_newO_fI, if_pos rfl]
  have y2 : ∀ k, c2.fL k x2 = 0 := fun k => by rw [hc2, hx2, sp_newO_fL, if_pos rfl]
  have hSc2 : sp_SI c2 sb N xs := hS9.fx hI9.wf f2 (fun z => z)
  clear hc2
  refine sp_dup X (pc := 16) dL_law_16 (sp_cat_rf _) ?_
  refine sp_aload_n X (pc := 17) (r := some sb) dL_law_17 rfl rfl ?_
  refine sp_iconst X (pc := 18) (v := 0) dL_law_18 (by decide) ?_
  refine sp_callS X (pc := 19) (mc := 0) (ms := 0) (As := [va_rf (some sb), .int 0]) (rest := [va_rf (some x2), va_rf (some x2)]) (c_Law_cell l G _ hSc2 hN) ok_Law_cell lk_Law_9 rfl rfl (by simp [sp_cat_rf, sp_cat_i, sp_cat_l]) (Nat.le_of_ble_eq_true rfl) (Nat.le_of_ble_eq_true rfl) (Nat.zero_le _) (Nat.zero_le _) dL_law_19 (sp_kI fun v19 m19 hp19 => ?_)
  obtain ⟨hp19v, hp19⟩ := hp19; replace hp19 := (hp19).symm; subst hp19; replace hp19v := (hp19v).symm; subst hp19v
  refine sp_callI X (pc := 22) (mc := 24) (ms := 15836) (b := x2) (r := some x2) (As := [.int (sp_cel N xs)]) (rest := [va_rf (some x2)]) (c_Mo_init l G _ (m0 := m9) (P := sp_Pw (fun _ => False) (A 8)) J2 w2 f2 t2 z2 y2 g2) ok_Mo_init rfl rfl lk_Law_20 rfl rfl (by simp [sp_cat_rf, sp_cat_i, sp_cat_l]) (Nat.le_of_ble_eq_true rfl) (Nat.le_of_ble_eq_true rfl) (by decide) (by decide) dL_law_22 (sp_kV fun m22 hp22 => ?_)
  obtain ⟨B, D, R, w22, mi, vA, vE, hRr, hB0, hBs, Ji, wi, fi, ni, hV2, hMZ2⟩ := hp22
  subst hB0
  have I1 : sp_I G (sp_Pw (fun _ => False) (A 8)) A mi := hI9.w0 (Ji.up (fun a z => Or.inl (Or.inl z))) wi fi
  have I2 : sp_I G (sp_Pm (sp_Pw (fun _ => False) (A 8)) c2.nx) A mi := ⟨Ji, I1.wf, I1.S, fun a z => z.elim (I1.2.2.2 a) (fun z => by omega)⟩
  have hRI : ∀ a, sp_mr B a → sp_Pm (sp_Pw (fun _ => False) (A 8)) c2.nx a := by
    rintro a ⟨k, hk, rfl⟩
    exact Or.inr (hBs k hk)
  have lt8 : A 8 < m9.nx := hI9.wf _ (by rw [hI9.S.k 8 20 (by decide)]; decide)
  have hA8 : ∀ k, (sp_mt k).1 ≠ 0 → B k ≠ A 8 := fun k hk z => by
    have := (hBs k hk).1
    have := f2.1
    omega
  have l1 : A 1 < m9.nx := hI9.wf _ (by rw [hI9.S.k 1 3 (by decide)]; decide)
  have l3 : A 3 < m9.nx := hI9.wf _ (by rw [hI9.S.k 3 1 (by decide)]; decide)
  have l7 : A 7 < m9.nx := hI9.wf _ (by rw [hI9.S.k 7 10 (by decide)]; decide)
  have hb1 : sp_bn G mi A := by
    obtain ⟨e9, s9, e10, s10, q9, q10, qq⟩ := hb9
    exact ⟨e9, s9, e10, s10, fi.li hI9.wf q9 (fun z => z) (fun z => z), fi.li hI9.wf q10 (fun z => z) (fun z => z), qq⟩
  have l0 : A 0 < m9.nx := hI9.wf _ (by rw [hI9.S.k 0 9 (by decide)]; decide)
  have l4 : A 4 < m9.nx := hI9.wf _ (by rw [hI9.S.k 4 1 (by decide)]; decide)
  have l2 : A 2 < m9.nx := hI9.wf _ (by rw [hI9.S.k 2 1 (by decide)]; decide)
  obtain ⟨e2, li2⟩ := sp_li0 I2 (j := 2) sp_ix2 (s := 0) ((fi.2.2.1 2 _ l2 (fun z => z)).trans p9) (by decide)
  obtain ⟨e3, li3⟩ := sp_li0 I2 (j := 3) sp_ix3 (s := 0) ((fi.2.2.1 2 _ l3 (fun z => z)).trans t9) (by decide)
  have hRi : sp_cR mi A R := by
    rw [hRr]
    exact hR9.fx hI9.wf (hI9.S.k 0 9 (by decide)) fi (fun _ _ _ z => z)
  have hCi : sp_CI G (sp_Pm (sp_Pw (fun _ => False) (A 8)) c2.nx) A mi R D 0 0 (fun _ => []) 0 (fun _ => []) 0 1000000 4611686018427387904 := ⟨I2, Or.inl (Or.inr rfl), hb1, ⟨fi.ty hI9.wf hO9.1 (by decide), (fi.ln hI9.wf hO9.1 (by decide)).trans hO9.2⟩, ⟨(fi.2.2.1 129 _ l1 (fun z => z)).trans d9, fun j z => absurd z (Nat.not_lt_zero _)⟩, ⟨(fi.2.2.2.1 580 _ l7 (fun z => z)).trans k09, (fi.2.2.2.1 581 _ l7 (fun z => z)).trans k19⟩, hRi, ⟨e2, li2, fun j z => absurd z (Nat.not_lt_zero _)⟩, ⟨e3, li3, fun j z => absurd z (Nat.not_lt_zero _)⟩, (fi.2.2.1 2 _ l4 (fun z => z)).trans z9⟩
  have hSi : sp_SI mi sb N xs := hS9.fx hI9.wf fi (fun z => z)
  have hC3 := sp_CI.mf (fun a z => by
    have := hV2.row z
    rw [hV2.mf.2.1] at this
    exact this) hCi hV2.mf hRI hA8
  obtain ⟨e4, li4⟩ := sp_li0 I2 (j := 4) sp_ix4 (s := 0) ((fi.2.2.1 2 _ l4 (fun z => z)).trans z9) (by decide)
  have hKi : sp_KZ G A mi R (fun _ => []) (fun _ => []) 0 (fun _ => 0, fun _ => 0, fun _ => 0, fun _ => 0, fun _ => 0) pu_Z0 0 := ⟨⟨e4, li4, fun j z => absurd z (Nat.not_lt_zero _)⟩, ⟨NA9, BA9, by rw [hRr]; exact (hcZ9 (fun _ => [])).F hI9 ((sp_F.refl m9 A (fun _ => False)).w0 fi) ⟨id, id, id, id, id, id, id⟩⟩, (fi.2.2.1 776 _ (hI9.lt 17 13 (by decide) (by decide)) (fun z => z)).trans l776⟩
  have hK3 := sp_KZ.mf (fun a z => by
    have := hV2.row z
    rw [hV2.mf.2.1] at this
    exact this) hKi I2 hV2.mf hRI
  have hN3 : sp_NZ m22 B 4 1 0 0 0 0 0 vA vE (fun _ => 0, fun _ => 0, fun _ => 0, fun _ => 0, fun _ => 0) pu_Z0 0 := ⟨hMZ2, fun j z => absurd z (Nat.not_lt_zero _), rfl⟩
  have hS3 : sp_SI m22 sb N xs := hSi.fx wi hV2.mf.fx (fun z => by
    have := hV2.row z
    rw [hV2.mf.2.1] at this
    have := hSi.1
    omega)
  have hV3 := hV2.og
  obtain ⟨P, hP⟩ : ∃ P, P = sp_Pm (sp_Pw (fun _ => False) (A 8)) c2.nx := ⟨_, rfl⟩
  rw [← hP] at hC3 hRI
  refine sp_astore_n X (pc := 25) (lv' := [(2, false, va_rf (some (B 0))), (1, false, va_rf (some (A 17))), (0, false, va_rf (some sb))]) dL_law_25 rfl (by decide) rfl ?_
  refine sp_iconst X (pc := 26) (v := 1) dL_law_26 (by decide) ?_
  refine sp_istore_n X (pc := 27) (lv' := [(3, false, .int 1), (2, false, va_rf (some (B 0))), (1, false, va_rf (some (A 17))), (0, false, va_rf (some sb))]) dL_law_27 rfl (by decide) rfl ?_
  refine sp_pick X [3, 2, 1, 0] (lv' := [(0, false, va_rf (some sb)), (1, false, va_rf (some (A 17))), (2, false, va_rf (some (B 0))), (3, false, .int (nI (6 * 0 + 1)))]) rfl ?_
  refine sp_less X (k' := 7000 * (64 - 0)) (n' := 66000 * (64 - 0)) (by omega) (by omega) ?_
  exact sp_law_loop X hG hRI hA8 hN hend hC3 hV3 hS3 ⟨fun j z => absurd z (Nat.not_lt_zero _), fun j z => absurd z (Nat.not_lt_zero _)⟩ ⟨fun j z => absurd z (Nat.not_lt_zero _), fun j z => absurd z (Nat.not_lt_zero _), fun j z => absurd z (Nat.not_lt_zero _)⟩ (by decide) hK3 hN3 ⟨pu_Z0.W 0, fun j z => absurd z (Nat.not_lt_zero _), Nat.zero_le _⟩ (by decide)
