set_option maxHeartbeats 2000000 in
set_option maxRecDepth 20000 in
theorem c_Mo_walk (l : Launch) (G : sp_G) (m : sp_M) {B : Nat → Nat} {m0 : sp_M} {D : Nat → Int32} {R : Int32} {l0 l1 : Int64} {d n b p t e L ws : Nat} (hVm : sp_V B m0 m D R l0 l1 d n b p t e L ws) {g : Nat} {x : Int32} (hg : g < p) (h4 : 4 ≤ n) : sp_C l G M_Mo_walk 0 0 [.ref (B 0), .int (nI g), .int x] m (sp_oI fun v m' => ∃ w', sp_V B m0 m' D R l0 l1 d n b p t e L w' ∧ sp_rk B [34] m m' ∧ (v = 0 → ∃ f lk q, m'.fI 871 (B 0) = nI f ∧ f < n ∧ m'.fI 872 (B 0) = nI lk ∧ m.aI (B 18) g = nI q ∧ lk + 1 ≤ q ∧ q ≤ 8 ∧ (m'.fI 873 (B 0) = -1 ∨ ∃ j, m'.fI 873 (B 0) = nI j ∧ j < n))) := by
  refine sp_enter (lv0 := [(0, false, va_rf (some (B 0))), (1, false, .int (nI g)), (2, false, .int x)]) "SafePathsModel" false rfl (by decide) (fun h => by cases h) (Nat.le_of_ble_eq_true rfl) rfl ?_
  intro w X
  have bd := hVm.hd
  have bn := hVm.hn
  have bb := hVm.hb
  have bp := hVm.hp
  have bt := hVm.ht
  have be := hVm.he
  have bw := hVm.hw
  have bL := hVm.hL
  obtain ⟨q, hq, hq1, hq2⟩ := hVm.pa g hg
  refine sp_iconst X (pc := 0) (v := 1) dX12_walk_0 (by decide) ?_
  refine sp_istore_n X (pc := 1) (lv' := [(3, false, .int 1), (0, false, va_rf (some (B 0))), (1, false, .int (nI g)), (2, false, .int x)]) dX12_walk_1 rfl (by decide) rfl ?_
  refine sp_aload_n X (pc := 2) (r := some (B 0)) dX12_walk_2 rfl rfl ?_
  refine sp_iconst X (pc := 3) (v := 0) dX12_walk_3 (by decide) ?_
  refine sp_putI X (pc := 4) (c := 13) (i := 40) (q := 872) (a := (B 0)) rfl hVm.r.o (by decide) rfl rfl (Or.inl rfl) ⟨rfl, rfl⟩ fl_Mo_186 dX12_walk_4 ?_
  obtain ⟨m4, hm4⟩ : ∃ xm, xm = (m.pI 872 (B 0) 0) := ⟨_, rfl⟩
  rw [← hm4]
  have hVm4 : sp_V B m0 m4 D R l0 l1 d n b p t e L ws := by
    rw [hm4]
    exact hVm.pI (k := 872) _ (by decide)
  have l4 : m4.fI 872 (B 0) = nI 0 := by
    rw [hm4]
    rw [sp_pI_fI, if_pos ⟨rfl, rfl⟩]; rfl
  have r4 : sp_rk B [34] m m4 := by
    rw [hm4]
    exact sp_rk.refl _ _ _
  clear hm4
  refine sp_iconst X (pc := 7) (v := 0) dX12_walk_7 (by decide) ?_
  refine sp_istore X (pc := 8) (lv' := [(4, false, .int 0), (3, false, .int 1), (0, false, va_rf (some (B 0))), (1, false, .int (nI g)), (2, false, .int x)]) dX12_walk_8  (by decide) rfl ?_
  have loop10 : ∀ (dz : Nat) (f k lk w1 : Nat) (m1 : sp_M), f < n → k ≤ q → lk ≤ k → lk + 1 ≤ q → sp_V B m0 m1 D R l0 l1 d n b p t e L w1 → sp_rk B [34] m m1 → m1.fI 872 (B 0) = nI lk → (1 ≤ k → m1.fI 873 (B 0) = -1 ∨ ∃ j, m1.fI 873 (B 0) = nI j ∧ j < n) → q - k = dz → w 0 0 m1 10 [(0, false, va_rf (some (B 0))), (1, false, .int (nI g)), (2, false, .int x), (3, false, .int (nI f)), (4, false, .int (nI k))] [] := by
    intro dz
    induction dz using Nat.strongRecOn with
    | ind dz ih =>
      intro f k lk w1 m1 hf hk hlk2 hlq hVm1 hr1 hlk hth hdz
      refine sp_iload X (pc := 10) (x := nI k) dX12_walk_10 rfl ?_
      refine sp_aload_n X (pc := 12) (r := some (B 0)) dX12_walk_12 rfl rfl ?_
      refine sp_getfield X (pc := 13) (c := 13) (i := 18) (t := 2) (a := (B 0)) (v := va_rf (some (B 18))) rfl hVm1.r.o (by decide) rfl (congrArg va_rf hVm1.f18) fl_Mo_48 dX12_walk_13 ?_
      refine sp_iload_n X (pc := 16) (x := nI g) dX12_walk_16 rfl rfl ?_
      refine sp_iaload X (pc := 17) (a := (B 18)) rfl (Or.inl hVm1.y18) (sp_in g hVm1.l18 (by omega) (by decide)) dX12_walk_17 ?_
      rw [show (m1.aI (B 18) (nI g).toNatClampNeg) = (m1.aI (B 18) g) from (congrArg _ (nI_clamp (n := g) (by omega)))]
      rw [show (m1.aI (B 18) g) = (nI q) from ((congrFun (hr1 18 (by decide) (by decide)) g).trans hq)]
      refine sp_icmp_ge X (pc := 18) (tgt := 187) dX12_walk_18 (by decide) (fun hb18 => ?_) (fun hb18 => ?_)
      · have hkq : q ≤ k := sp_nge hb18 (by omega) (by omega)
        refine sp_aload_n X (pc := 187) (r := some (B 0)) dX12_walk_187 rfl rfl ?_
        refine sp_iload_n X (pc := 188) (x := nI f) dX12_walk_188 rfl rfl ?_
        refine sp_putI X (pc := 189) (c := 13) (i := 39) (q := 871) (a := (B 0)) rfl hVm1.r.o (by decide) rfl rfl (Or.inl rfl) ⟨rfl, rfl⟩ fl_Mo_196 dX12_walk_189 ?_
        obtain ⟨m189, hm189⟩ : ∃ xm, xm = (m1.pI 871 (B 0) (nI f)) := ⟨_, rfl⟩
        rw [← hm189]
        have hVm189 : sp_V B m0 m189 D R l0 l1 d n b p t e L w1 := by
          rw [hm189]
          exact hVm1.pI (k := 871) _ (by decide)
        have f189 : m189.fI 871 (B 0) = nI f := by
          rw [hm189]
          rw [sp_pI_fI, if_pos ⟨rfl, rfl⟩]
        have l189 : m189.fI 872 (B 0) = nI lk := by
          rw [hm189]
          rw [sp_pI_fI, if_neg (by omega)]; exact hlk
        have th189 : m189.fI 873 (B 0) = -1 ∨ ∃ j, m189.fI 873 (B 0) = nI j ∧ j < n := by
          rw [hm189]
          rw [sp_pI_fI, if_neg (by omega)]; exact hth (by omega)
        have r189 : sp_rk B [34] m m189 := by
          rw [hm189]
          exact hr1
        clear hm189
        refine sp_iconst X (pc := 192) (v := 0) dX12_walk_192 (by decide) ?_
        refine sp_ireturn X (pc := 193) dX12_walk_193 rfl ⟨_, rfl, ?_⟩
        exact ⟨_, hVm189, r189, fun _ => ⟨f, lk, q, f189, hf, l189, hq, hlq, hq2, th189⟩⟩
      · have hkq : k < q := sp_nlt hb18 (by omega)
        refine sp_iload X (pc := 21) (x := nI k) dX12_walk_21 rfl ?_
        refine sp_aload_n X (pc := 23) (r := some (B 0)) dX12_walk_23 rfl rfl ?_
        refine sp_getfield X (pc := 24) (c := 13) (i := 18) (t := 2) (a := (B 0)) (v := va_rf (some (B 18))) rfl hVm1.r.o (by decide) rfl (congrArg va_rf hVm1.f18) fl_Mo_48 dX12_walk_24 ?_
        refine sp_iload_n X (pc := 27) (x := nI g) dX12_walk_27 rfl rfl ?_
        refine sp_iaload X (pc := 28) (a := (B 18)) rfl (Or.inl hVm1.y18) (sp_in g hVm1.l18 (by omega) (by decide)) dX12_walk_28 ?_
        rw [show (m1.aI (B 18) (nI g).toNatClampNeg) = (m1.aI (B 18) g) from (congrArg _ (nI_clamp (n := g) (by omega)))]
        rw [show (m1.aI (B 18) g) = (nI q) from ((congrFun (hr1 18 (by decide) (by decide)) g).trans hq)]
        refine sp_iconst X (pc := 29) (v := 1) dX12_walk_29 (by decide) ?_
        refine sp_isub X (pc := 30) dX12_walk_30 ?_
        rw [show ((nI q) - 1) = (nI (q - 1)) from sp_sub (c := 1) hq1]
        refine sp_icmp_ne X (pc := 31) (tgt := 38) dX12_walk_31 (by decide) (fun hb31 => ?_) (fun hb31 => ?_)
        · have hla : k + 1 < q := by
            have : k ≠ q - 1 := fun z => hb31 (by rw [z])
            omega
          refine sp_iconst X (pc := 38) (v := 0) dX12_walk_38 (by decide) ?_
          refine sp_istore X (pc := 39) (lv' := [(5, false, .int 0), (0, false, va_rf (some (B 0))), (1, false, .int (nI g)), (2, false, .int x), (3, false, .int (nI f)), (4, false, .int (nI k))]) dX12_walk_39  (by decide) rfl ?_
          refine sp_aload_n X (pc := 41) (r := some (B 0)) dX12_walk_41 rfl rfl ?_
          refine sp_iload_n X (pc := 42) (x := nI g) dX12_walk_42 rfl rfl ?_
          refine sp_iload X (pc := 43) (x := nI k) dX12_walk_43 rfl ?_
          refine sp_callV X (pc := 45) (mc := 0) (ms := 0) (b := (B 0)) (c := 13) (r := some (B 0)) (As := [.int (nI g), .int (nI k)]) (rest := []) (c_Mo_partWord l G _ hVm1 hg (by omega)) ok_Mo_partWord rfl hVm1.r.o (by decide) rfl lk_Mo_189 rfl rfl (Nat.zero_le _) (Nat.le_of_ble_eq_true rfl) (Nat.le_of_ble_eq_true rfl) (Nat.zero_le _) (Nat.zero_le _) dX12_walk_45 (sp_kV fun m45 hp45 => ?_)
          obtain ⟨w45, hw45, hVm45, hwd45⟩ := hp45
          have hr45 := hr1.trans (sp_rk.wd hwd45 hVm1.r)
          refine sp_aload_n X (pc := 48) (r := some (B 0)) dX12_walk_48 rfl rfl ?_
          refine sp_getfield X (pc := 49) (c := 13) (i := 40) (t := 0) (a := (B 0)) (v := .int (nI lk)) rfl hVm45.r.o (by decide) rfl (congrArg Value.int ((hwd45.1 872 (by decide)).trans hlk)) fl_Mo_186 dX12_walk_49 ?_
          refine sp_if_le X (pc := 52) (tgt := 59) dX12_walk_52 (by decide) (fun hb52 => ?_) (fun hb52 => ?_)
          · refine sp_aload_n X (pc := 59) (r := some (B 0)) dX12_walk_59 rfl rfl ?_
            refine sp_iload_n X (pc := 60) (x := nI f) dX12_walk_60 rfl rfl ?_
            refine sp_callV X (pc := 61) (mc := 0) (ms := 0) (b := (B 0)) (c := 13) (r := some (B 0)) (As := [.int (nI f)]) (rest := []) (c_Mo_in l G _ hVm45) ok_Mo_in rfl hVm45.r.o (by decide) rfl lk_Mo_171 rfl rfl (Nat.zero_le _) (Nat.le_of_ble_eq_true rfl) (Nat.le_of_ble_eq_true rfl) (Nat.zero_le _) (Nat.zero_le _) dX12_walk_61 (sp_kI fun v61 m61 hp61 => ?_)
            obtain ⟨hp61, hp61m⟩ := hp61; replace hp61m := (hp61m).symm; subst hp61m
            refine sp_istore X (pc := 64) (lv' := [(6, false, .int v61), (5, false, .int 0), (0, false, va_rf (some (B 0))), (1, false, .int (nI g)), (2, false, .int x), (3, false, .int (nI f)), (4, false, .int (nI k))]) dX12_walk_64  (by decide) rfl ?_
            refine sp_iload X (pc := 66) (x := v61) dX12_walk_66 rfl ?_
            refine sp_iconst X (pc := 68) (v := (-1)) dX12_walk_68 (by decide) ?_
            refine sp_icmp_eq X (pc := 69) (tgt := 94) dX12_walk_69 (by decide) (fun hb69 => ?_) (fun hb69 => ?_)
            · subst hb69
              refine sp_aload_n X (pc := 94) (r := some (B 0)) dX12_walk_94 rfl rfl ?_
              refine sp_iload X (pc := 95) (x := (-1)) dX12_walk_95 rfl ?_
              refine sp_putI X (pc := 97) (c := 13) (i := 41) (q := 873) (a := (B 0)) rfl hVm45.r.o (by decide) rfl rfl (Or.inl rfl) ⟨rfl, rfl⟩ fl_Mo_193 dX12_walk_97 ?_
              obtain ⟨m97, hm97⟩ : ∃ xm, xm = (m45.pI 873 (B 0) (-1)) := ⟨_, rfl⟩
              rw [← hm97]
              have hVm97 : sp_V B m0 m97 D R l0 l1 d n b p t e L w45 := by
                rw [hm97]
                exact hVm45.pI (k := 873) _ (by decide)
              have th97 : m97.fI 873 (B 0) = -1 ∨ ∃ j, m97.fI 873 (B 0) = nI j ∧ j < n := by
                rw [hm97]
                rw [sp_pI_fI, if_pos ⟨rfl, rfl⟩]
                first | exact Or.inl rfl | exact Or.inr ⟨j, rfl, hj⟩
              have l97 : m97.fI 872 (B 0) = nI lk := by
                rw [hm97]
                rw [sp_pI_fI, if_neg (by omega)]; exact (hwd45.1 872 (by decide)).trans hlk
              have r97 : sp_rk B [34] m m97 := by
                rw [hm97]
                exact hr45
              clear hm97
              refine sp_iload X (pc := 100) (x := 0) dX12_walk_100 rfl ?_
              refine sp_if_ne X (pc := 102) (tgt := 181) dX12_walk_102 (by decide) (fun hb102 => ?_) (fun hb102 => ?_)
              · first | exact absurd hb102 (by decide) | exact absurd (by decide) hb102
              · refine sp_iload X (pc := 105) (x := (-1)) dX12_walk_105 rfl ?_
                refine sp_iconst X (pc := 107) (v := (-1)) dX12_walk_107 (by decide) ?_
                refine sp_icmp_ne X (pc := 108) (tgt := 150) dX12_walk_108 (by decide) (fun hb108 => ?_) (fun hb108 => ?_)
                · first | exact absurd hb108 (by decide) | exact absurd (by decide) hb108
                · refine sp_iload_n X (pc := 111) (x := x) dX12_walk_111 rfl rfl ?_
                  refine sp_if_ne X (pc := 112) (tgt := 118) dX12_walk_112 (by decide) (fun hb112 => ?_) (fun hb112 => ?_)
                  · refine sp_aload_n X (pc := 118) (r := some (B 0)) dX12_walk_118 rfl rfl ?_
                    refine sp_getfield X (pc := 119) (c := 13) (i := 40) (t := 0) (a := (B 0)) (v := .int (nI lk)) rfl hVm97.r.o (by decide) rfl (congrArg Value.int l97) fl_Mo_186 dX12_walk_119 ?_
                    refine sp_if_ne X (pc := 122) (tgt := 137) dX12_walk_122 (by decide) (fun hb122 => ?_) (fun hb122 => ?_)
                    · refine sp_aload_n X (pc := 137) (r := some (B 0)) dX12_walk_137 rfl rfl ?_
                      refine sp_dup X (pc := 138) dX12_walk_138 (sp_cat_rf _) ?_
                      refine sp_getfield X (pc := 139) (c := 13) (i := 40) (t := 0) (a := (B 0)) (v := .int (nI lk)) rfl hVm97.r.o (by decide) rfl (congrArg Value.int l97) fl_Mo_186 dX12_walk_139 ?_
                      refine sp_iconst X (pc := 142) (v := 1) dX12_walk_142 (by decide) ?_
                      refine sp_iadd X (pc := 143) dX12_walk_143 ?_
                      rw [show ((nI lk) + 1) = (nI (lk + 1)) from (nI_add lk 1)]
                      refine sp_putI X (pc := 144) (c := 13) (i := 40) (q := 872) (a := (B 0)) rfl hVm97.r.o (by decide) rfl rfl (Or.inl rfl) ⟨rfl, rfl⟩ fl_Mo_186 dX12_walk_144 ?_
                      obtain ⟨m144, hm144⟩ : ∃ xm, xm = (m97.pI 872 (B 0) (nI (lk + 1))) := ⟨_, rfl⟩
                      rw [← hm144]
                      have hVm144 : sp_V B m0 m144 D R l0 l1 d n b p t e L w45 := by
                        rw [hm144]
                        exact hVm97.pI (k := 872) _ (by decide)
                      have th144 : m144.fI 873 (B 0) = -1 ∨ ∃ j, m144.fI 873 (B 0) = nI j ∧ j < n := by
                        rw [hm144]
                        rw [sp_pI_fI, if_neg (by omega)]; exact th97
                      have l144 : m144.fI 872 (B 0) = nI (lk + 1) := by
                        rw [hm144]
                        rw [sp_pI_fI, if_pos ⟨rfl, rfl⟩]
                      have r144 : sp_rk B [34] m m144 := by
                        rw [hm144]
                        exact r97
                      clear hm144
                      refine sp_goto X (pc := 147) (tgt := 181) dX12_walk_147 (by decide) ?_
                      refine sp_iinc X (pc := 181) (v := (nI (k + 1))) (lv' := [(4, false, .int (nI (k + 1))), (6, false, .int (-1)), (5, false, .int 0), (0, false, va_rf (some (B 0))), (1, false, .int (nI g)), (2, false, .int x), (3, false, .int (nI f))]) dX12_walk_181 rfl ((sp_i1 k)) (by decide) rfl ?_
                      refine sp_goto X (pc := 184) (tgt := 10) dX12_walk_184 (by decide) ?_
                      refine sp_pick X [3, 4, 5, 6, 0] (lv' := [(0, false, va_rf (some (B 0))), (1, false, .int (nI g)), (2, false, .int x), (3, false, .int (nI f)), (4, false, .int (nI (k + 1)))]) rfl ?_
                      first
                        | exact ih _ (by omega) f (k + 1) (lk + 1) _ _ hf (by omega) (by omega) (by omega) hVm144 r144 l144 (fun _ => th144) rfl
                        | exact ih _ (by omega) j (k + 1) lk _ _ hj (by omega) (by omega) (by omega) hVm97 r97 l97 (fun _ => th97) rfl
                        | exact ih _ (by omega) f (k + 1) lk _ _ hf (by omega) (by omega) (by omega) hVm97 r97 l97 (fun _ => th97) rfl
                    · refine sp_aload_n X (pc := 125) (r := some (B 0)) dX12_walk_125 rfl rfl ?_
                      refine sp_getfield X (pc := 126) (c := 13) (i := 5) (t := 2) (a := (B 0)) (v := va_rf (some (B 5))) rfl hVm97.r.o (by decide) rfl (congrArg va_rf hVm97.f5) fl_Mo_16 dX12_walk_126 ?_
                      refine sp_iload_n X (pc := 129) (x := nI f) dX12_walk_129 rfl rfl ?_
                      refine sp_baload X (pc := 130) (a := (B 5)) rfl hVm97.y5 (sp_in f hVm97.l5 (by omega) (by decide)) dX12_walk_130 ?_
                      rw [show (m97.aI (B 5) (nI f).toNatClampNeg) = (m97.aI (B 5) f) from (congrArg _ (nI_clamp (n := f) (by omega)))]
                      refine sp_if_eq X (pc := 131) (tgt := 137) dX12_walk_131 (by decide) (fun hb131 => ?_) (fun hb131 => ?_)
                      · refine sp_aload_n X (pc := 137) (r := some (B 0)) dX12_walk_137 rfl rfl ?_
                        refine sp_dup X (pc := 138) dX12_walk_138 (sp_cat_rf _) ?_
                        refine sp_getfield X (pc := 139) (c := 13) (i := 40) (t := 0) (a := (B 0)) (v := .int (nI lk)) rfl hVm97.r.o (by decide) rfl (congrArg Value.int l97) fl_Mo_186 dX12_walk_139 ?_
                        refine sp_iconst X (pc := 142) (v := 1) dX12_walk_142 (by decide) ?_
                        refine sp_iadd X (pc := 143) dX12_walk_143 ?_
                        rw [show ((nI lk) + 1) = (nI (lk + 1)) from (nI_add lk 1)]
                        refine sp_putI X (pc := 144) (c := 13) (i := 40) (q := 872) (a := (B 0)) rfl hVm97.r.o (by decide) rfl rfl (Or.inl rfl) ⟨rfl, rfl⟩ fl_Mo_186 dX12_walk_144 ?_
                        obtain ⟨m144, hm144⟩ : ∃ xm, xm = (m97.pI 872 (B 0) (nI (lk + 1))) := ⟨_, rfl⟩
                        rw [← hm144]
                        have hVm144 : sp_V B m0 m144 D R l0 l1 d n b p t e L w45 := by
                          rw [hm144]
                          exact hVm97.pI (k := 872) _ (by decide)
                        have th144 : m144.fI 873 (B 0) = -1 ∨ ∃ j, m144.fI 873 (B 0) = nI j ∧ j < n := by
                          rw [hm144]
                          rw [sp_pI_fI, if_neg (by omega)]; exact th97
                        have l144 : m144.fI 872 (B 0) = nI (lk + 1) := by
                          rw [hm144]
                          rw [sp_pI_fI, if_pos ⟨rfl, rfl⟩]
                        have r144 : sp_rk B [34] m m144 := by
                          rw [hm144]
                          exact r97
                        clear hm144
                        refine sp_goto X (pc := 147) (tgt := 181) dX12_walk_147 (by decide) ?_
                        refine sp_iinc X (pc := 181) (v := (nI (k + 1))) (lv' := [(4, false, .int (nI (k + 1))), (6, false, .int (-1)), (5, false, .int 0), (0, false, va_rf (some (B 0))), (1, false, .int (nI g)), (2, false, .int x), (3, false, .int (nI f))]) dX12_walk_181 rfl ((sp_i1 k)) (by decide) rfl ?_
                        refine sp_goto X (pc := 184) (tgt := 10) dX12_walk_184 (by decide) ?_
                        refine sp_pick X [3, 4, 5, 6, 0] (lv' := [(0, false, va_rf (some (B 0))), (1, false, .int (nI g)), (2, false, .int x), (3, false, .int (nI f)), (4, false, .int (nI (k + 1)))]) rfl ?_
                        first
                          | exact ih _ (by omega) f (k + 1) (lk + 1) _ _ hf (by omega) (by omega) (by omega) hVm144 r144 l144 (fun _ => th144) rfl
                          | exact ih _ (by omega) j (k + 1) lk _ _ hj (by omega) (by omega) (by omega) hVm97 r97 l97 (fun _ => th97) rfl
                          | exact ih _ (by omega) f (k + 1) lk _ _ hf (by omega) (by omega) (by omega) hVm97 r97 l97 (fun _ => th97) rfl
                      · refine sp_bipush X (pc := 134) (v := (-16)) dX12_walk_134 (by decide) ?_
                        refine sp_ireturn X (pc := 136) dX12_walk_136 rfl ⟨_, rfl, ?_⟩
                        exact ⟨_, hVm97, r97, fun z => absurd z (by decide)⟩
                  · refine sp_bipush X (pc := 115) (v := (-13)) dX12_walk_115 (by decide) ?_
                    refine sp_ireturn X (pc := 117) dX12_walk_117 rfl ⟨_, rfl, ?_⟩
                    exact ⟨_, hVm97, r97, fun z => absurd z (by decide)⟩
            · have hj0 : ∃ j, v61 = nI j ∧ j < n := by
                rcases hp61 with z | ⟨j, z1, z2, z3⟩
                · exact absurd z hb69
                · exact ⟨j, z1, z3⟩
              obtain ⟨j, rfl, hj⟩ := hj0
              refine sp_aload_n X (pc := 72) (r := some (B 0)) dX12_walk_72 rfl rfl ?_
              refine sp_iload X (pc := 73) (x := (nI j)) dX12_walk_73 rfl ?_
              refine sp_iconst X (pc := 75) (v := 1) dX12_walk_75 (by decide) ?_
              refine sp_callV X (pc := 76) (mc := 0) (ms := 0) (b := (B 0)) (c := 13) (r := some (B 0)) (As := [.int (nI j), .int 1]) (rest := []) (c_Mo_isNamed l G _ hVm45 hj) ok_Mo_isNamed rfl hVm45.r.o (by decide) rfl lk_Mo_155 rfl rfl (Nat.zero_le _) (Nat.le_of_ble_eq_true rfl) (Nat.le_of_ble_eq_true rfl) (Nat.zero_le _) (Nat.zero_le _) dX12_walk_76 (sp_kI fun v76 m76 hp76 => ?_)
              obtain ⟨hp76, hp76m⟩ := hp76; replace hp76m := (hp76m).symm; subst hp76m
              refine sp_if_ne X (pc := 79) (tgt := 94) dX12_walk_79 (by decide) (fun hb79 => ?_) (fun hb79 => ?_)
              · refine sp_aload_n X (pc := 94) (r := some (B 0)) dX12_walk_94 rfl rfl ?_
                refine sp_iload X (pc := 95) (x := (nI j)) dX12_walk_95 rfl ?_
                refine sp_putI X (pc := 97) (c := 13) (i := 41) (q := 873) (a := (B 0)) rfl hVm45.r.o (by decide) rfl rfl (Or.inl rfl) ⟨rfl, rfl⟩ fl_Mo_193 dX12_walk_97 ?_
                obtain ⟨m97, hm97⟩ : ∃ xm, xm = (m45.pI 873 (B 0) (nI j)) := ⟨_, rfl⟩
                rw [← hm97]
                have hVm97 : sp_V B m0 m97 D R l0 l1 d n b p t e L w45 := by
                  rw [hm97]
                  exact hVm45.pI (k := 873) _ (by decide)
                have th97 : m97.fI 873 (B 0) = -1 ∨ ∃ j, m97.fI 873 (B 0) = nI j ∧ j < n := by
                  rw [hm97]
                  rw [sp_pI_fI, if_pos ⟨rfl, rfl⟩]
                  first | exact Or.inl rfl | exact Or.inr ⟨j, rfl, hj⟩
                have l97 : m97.fI 872 (B 0) = nI lk := by
                  rw [hm97]
                  rw [sp_pI_fI, if_neg (by omega)]; exact (hwd45.1 872 (by decide)).trans hlk
                have r97 : sp_rk B [34] m m97 := by
                  rw [hm97]
                  exact hr45
                clear hm97
                refine sp_iload X (pc := 100) (x := 0) dX12_walk_100 rfl ?_
                refine sp_if_ne X (pc := 102) (tgt := 181) dX12_walk_102 (by decide) (fun hb102 => ?_) (fun hb102 => ?_)
                · first | exact absurd hb102 (by decide) | exact absurd (by decide) hb102
                · refine sp_iload X (pc := 105) (x := (nI j)) dX12_walk_105 rfl ?_
                  refine sp_iconst X (pc := 107) (v := (-1)) dX12_walk_107 (by decide) ?_
                  refine sp_icmp_ne X (pc := 108) (tgt := 150) dX12_walk_108 (by decide) (fun hb108 => ?_) (fun hb108 => ?_)
                  · refine sp_aload_n X (pc := 150) (r := some (B 0)) dX12_walk_150 rfl rfl ?_
                    refine sp_getfield X (pc := 151) (c := 13) (i := 4) (t := 2) (a := (B 0)) (v := va_rf (some (B 4))) rfl hVm97.r.o (by decide) rfl (congrArg va_rf hVm97.f4) fl_Mo_13 dX12_walk_151 ?_
                    refine sp_iload X (pc := 154) (x := (nI j)) dX12_walk_154 rfl ?_
                    refine sp_iaload X (pc := 156) (a := (B 4)) rfl (Or.inl hVm97.y4) (sp_in j hVm97.l4 (by omega) (by decide)) dX12_walk_156 ?_
                    rw [show (m97.aI (B 4) (nI j).toNatClampNeg) = (m97.aI (B 4) j) from (congrArg _ (nI_clamp (n := j) (by omega)))]
                    refine sp_iconst X (pc := 157) (v := 2) dX12_walk_157 (by decide) ?_
                    refine sp_icmp_ne X (pc := 158) (tgt := 164) dX12_walk_158 (by decide) (fun hb158 => ?_) (fun hb158 => ?_)
                    · refine sp_aload_n X (pc := 164) (r := some (B 0)) dX12_walk_164 rfl rfl ?_
                      refine sp_getfield X (pc := 165) (c := 13) (i := 4) (t := 2) (a := (B 0)) (v := va_rf (some (B 4))) rfl hVm97.r.o (by decide) rfl (congrArg va_rf hVm97.f4) fl_Mo_13 dX12_walk_165 ?_
                      refine sp_iload X (pc := 168) (x := (nI j)) dX12_walk_168 rfl ?_
                      refine sp_iaload X (pc := 170) (a := (B 4)) rfl (Or.inl hVm97.y4) (sp_in j hVm97.l4 (by omega) (by decide)) dX12_walk_170 ?_
                      rw [show (m97.aI (B 4) (nI j).toNatClampNeg) = (m97.aI (B 4) j) from (congrArg _ (nI_clamp (n := j) (by omega)))]
                      refine sp_iconst X (pc := 171) (v := 1) dX12_walk_171 (by decide) ?_
                      refine sp_icmp_ne X (pc := 172) (tgt := 178) dX12_walk_172 (by decide) (fun hb172 => ?_) (fun hb172 => ?_)
                      · refine sp_iload X (pc := 178) (x := (nI j)) dX12_walk_178 rfl ?_
                        refine sp_istore_n X (pc := 180) (lv' := [(3, false, .int (nI j)), (6, false, .int (nI j)), (5, false, .int 0), (0, false, va_rf (some (B 0))), (1, false, .int (nI g)), (2, false, .int x), (4, false, .int (nI k))]) dX12_walk_180 rfl (by decide) rfl ?_
                        refine sp_iinc X (pc := 181) (v := (nI (k + 1))) (lv' := [(4, false, .int (nI (k + 1))), (3, false, .int (nI j)), (6, false, .int (nI j)), (5, false, .int 0), (0, false, va_rf (some (B 0))), (1, false, .int (nI g)), (2, false, .int x)]) dX12_walk_181 rfl ((sp_i1 k)) (by decide) rfl ?_
                        refine sp_goto X (pc := 184) (tgt := 10) dX12_walk_184 (by decide) ?_
                        refine sp_pick X [4, 5, 6, 1, 0] (lv' := [(0, false, va_rf (some (B 0))), (1, false, .int (nI g)), (2, false, .int x), (3, false, .int (nI j)), (4, false, .int (nI (k + 1)))]) rfl ?_
                        first
                          | exact ih _ (by omega) f (k + 1) (lk + 1) _ _ hf (by omega) (by omega) (by omega) hVm144 r144 l144 (fun _ => th144) rfl
                          | exact ih _ (by omega) j (k + 1) lk _ _ hj (by omega) (by omega) (by omega) hVm97 r97 l97 (fun _ => th97) rfl
                          | exact ih _ (by omega) f (k + 1) lk _ _ hf (by omega) (by omega) (by omega) hVm97 r97 l97 (fun _ => th97) rfl
                      · refine sp_bipush X (pc := 175) (v := (-15)) dX12_walk_175 (by decide) ?_
                        refine sp_ireturn X (pc := 177) dX12_walk_177 rfl ⟨_, rfl, ?_⟩
                        exact ⟨_, hVm97, r97, fun z => absurd z (by decide)⟩
                    · refine sp_bipush X (pc := 161) (v := (-14)) dX12_walk_161 (by decide) ?_
                      refine sp_ireturn X (pc := 163) dX12_walk_163 rfl ⟨_, rfl, ?_⟩
                      exact ⟨_, hVm97, r97, fun z => absurd z (by decide)⟩
                  · exact absurd hb108 (sp_nn1 (by omega)) --stop
              · refine sp_aload_n X (pc := 82) (r := some (B 0)) dX12_walk_82 rfl rfl ?_
                refine sp_bipush X (pc := 83) (v := 16) dX12_walk_83 (by decide) ?_
                refine sp_callV X (pc := 85) (mc := 0) (ms := 0) (b := (B 0)) (c := 13) (r := some (B 0)) (As := [.int 16]) (rest := []) (c_Mo_hasRule l G _ hVm45) ok_Mo_hasRule rfl hVm45.r.o (by decide) rfl lk_Mo_118 rfl rfl (Nat.zero_le _) (Nat.le_of_ble_eq_true rfl) (Nat.le_of_ble_eq_true rfl) (Nat.zero_le _) (Nat.zero_le _) dX12_walk_85 (sp_kI fun v85 m85 hp85 => ?_)
                obtain ⟨hp85v, hp85⟩ := hp85; replace hp85 := (hp85).symm; subst hp85; replace hp85v := (hp85v).symm; subst hp85v
                refine sp_if_ne X (pc := 88) (tgt := 94) dX12_walk_88 (by decide) (fun hb88 => ?_) (fun hb88 => ?_)
                · refine sp_aload_n X (pc := 94) (r := some (B 0)) dX12_walk_94 rfl rfl ?_
                  refine sp_iload X (pc := 95) (x := (nI j)) dX12_walk_95 rfl ?_
                  refine sp_putI X (pc := 97) (c := 13) (i := 41) (q := 873) (a := (B 0)) rfl hVm45.r.o (by decide) rfl rfl (Or.inl rfl) ⟨rfl, rfl⟩ fl_Mo_193 dX12_walk_97 ?_
                  obtain ⟨m97, hm97⟩ : ∃ xm, xm = (m45.pI 873 (B 0) (nI j)) := ⟨_, rfl⟩
                  rw [← hm97]
                  have hVm97 : sp_V B m0 m97 D R l0 l1 d n b p t e L w45 := by
                    rw [hm97]
                    exact hVm45.pI (k := 873) _ (by decide)
                  have th97 : m97.fI 873 (B 0) = -1 ∨ ∃ j, m97.fI 873 (B 0) = nI j ∧ j < n := by
                    rw [hm97]
                    rw [sp_pI_fI, if_pos ⟨rfl, rfl⟩]
                    first | exact Or.inl rfl | exact Or.inr ⟨j, rfl, hj⟩
                  have l97 : m97.fI 872 (B 0) = nI lk := by
                    rw [hm97]
                    rw [sp_pI_fI, if_neg (by omega)]; exact (hwd45.1 872 (by decide)).trans hlk
                  have r97 : sp_rk B [34] m m97 := by
                    rw [hm97]
                    exact hr45
                  clear hm97
                  refine sp_iload X (pc := 100) (x := 0) dX12_walk_100 rfl ?_
                  refine sp_if_ne X (pc := 102) (tgt := 181) dX12_walk_102 (by decide) (fun hb102 => ?_) (fun hb102 => ?_)
                  · first | exact absurd hb102 (by decide) | exact absurd (by decide) hb102
                  · refine sp_iload X (pc := 105) (x := (nI j)) dX12_walk_105 rfl ?_
                    refine sp_iconst X (pc := 107) (v := (-1)) dX12_walk_107 (by decide) ?_
                    refine sp_icmp_ne X (pc := 108) (tgt := 150) dX12_walk_108 (by decide) (fun hb108 => ?_) (fun hb108 => ?_)
                    · refine sp_aload_n X (pc := 150) (r := some (B 0)) dX12_walk_150 rfl rfl ?_
                      refine sp_getfield X (pc := 151) (c := 13) (i := 4) (t := 2) (a := (B 0)) (v := va_rf (some (B 4))) rfl hVm97.r.o (by decide) rfl (congrArg va_rf hVm97.f4) fl_Mo_13 dX12_walk_151 ?_
                      refine sp_iload X (pc := 154) (x := (nI j)) dX12_walk_154 rfl ?_
                      refine sp_iaload X (pc := 156) (a := (B 4)) rfl (Or.inl hVm97.y4) (sp_in j hVm97.l4 (by omega) (by decide)) dX12_walk_156 ?_
                      rw [show (m97.aI (B 4) (nI j).toNatClampNeg) = (m97.aI (B 4) j) from (congrArg _ (nI_clamp (n := j) (by omega)))]
                      refine sp_iconst X (pc := 157) (v := 2) dX12_walk_157 (by decide) ?_
                      refine sp_icmp_ne X (pc := 158) (tgt := 164) dX12_walk_158 (by decide) (fun hb158 => ?_) (fun hb158 => ?_)
                      · refine sp_aload_n X (pc := 164) (r := some (B 0)) dX12_walk_164 rfl rfl ?_
                        refine sp_getfield X (pc := 165) (c := 13) (i := 4) (t := 2) (a := (B 0)) (v := va_rf (some (B 4))) rfl hVm97.r.o (by decide) rfl (congrArg va_rf hVm97.f4) fl_Mo_13 dX12_walk_165 ?_
                        refine sp_iload X (pc := 168) (x := (nI j)) dX12_walk_168 rfl ?_
                        refine sp_iaload X (pc := 170) (a := (B 4)) rfl (Or.inl hVm97.y4) (sp_in j hVm97.l4 (by omega) (by decide)) dX12_walk_170 ?_
                        rw [show (m97.aI (B 4) (nI j).toNatClampNeg) = (m97.aI (B 4) j) from (congrArg _ (nI_clamp (n := j) (by omega)))]
                        refine sp_iconst X (pc := 171) (v := 1) dX12_walk_171 (by decide) ?_
                        refine sp_icmp_ne X (pc := 172) (tgt := 178) dX12_walk_172 (by decide) (fun hb172 => ?_) (fun hb172 => ?_)
                        · refine sp_iload X (pc := 178) (x := (nI j)) dX12_walk_178 rfl ?_
                          refine sp_istore_n X (pc := 180) (lv' := [(3, false, .int (nI j)), (6, false, .int (nI j)), (5, false, .int 0), (0, false, va_rf (some (B 0))), (1, false, .int (nI g)), (2, false, .int x), (4, false, .int (nI k))]) dX12_walk_180 rfl (by decide) rfl ?_
                          refine sp_iinc X (pc := 181) (v := (nI (k + 1))) (lv' := [(4, false, .int (nI (k + 1))), (3, false, .int (nI j)), (6, false, .int (nI j)), (5, false, .int 0), (0, false, va_rf (some (B 0))), (1, false, .int (nI g)), (2, false, .int x)]) dX12_walk_181 rfl ((sp_i1 k)) (by decide) rfl ?_
                          refine sp_goto X (pc := 184) (tgt := 10) dX12_walk_184 (by decide) ?_
                          refine sp_pick X [4, 5, 6, 1, 0] (lv' := [(0, false, va_rf (some (B 0))), (1, false, .int (nI g)), (2, false, .int x), (3, false, .int (nI j)), (4, false, .int (nI (k + 1)))]) rfl ?_
                          first
                            | exact ih _ (by omega) f (k + 1) (lk + 1) _ _ hf (by omega) (by omega) (by omega) hVm144 r144 l144 (fun _ => th144) rfl
                            | exact ih _ (by omega) j (k + 1) lk _ _ hj (by omega) (by omega) (by omega) hVm97 r97 l97 (fun _ => th97) rfl
                            | exact ih _ (by omega) f (k + 1) lk _ _ hf (by omega) (by omega) (by omega) hVm97 r97 l97 (fun _ => th97) rfl
                        · refine sp_bipush X (pc := 175) (v := (-15)) dX12_walk_175 (by decide) ?_
                          refine sp_ireturn X (pc := 177) dX12_walk_177 rfl ⟨_, rfl, ?_⟩
                          exact ⟨_, hVm97, r97, fun z => absurd z (by decide)⟩
                      · refine sp_bipush X (pc := 161) (v := (-14)) dX12_walk_161 (by decide) ?_
                        refine sp_ireturn X (pc := 163) dX12_walk_163 rfl ⟨_, rfl, ?_⟩
                        exact ⟨_, hVm97, r97, fun z => absurd z (by decide)⟩
                    · exact absurd hb108 (sp_nn1 (by omega)) --stop
                · refine sp_bipush X (pc := 91) (v := (-12)) dX12_walk_91 (by decide) ?_
                  refine sp_ireturn X (pc := 93) dX12_walk_93 rfl ⟨_, rfl, ?_⟩
                  exact ⟨_, hVm45, hr45, fun z => absurd z (by decide)⟩
          · refine sp_iconst X (pc := 55) (v := (-1)) dX12_walk_55 (by decide) ?_
            refine sp_goto X (pc := 56) (tgt := 64) dX12_walk_56 (by decide) ?_
            refine sp_istore X (pc := 64) (lv' := [(6, false, .int (-1)), (5, false, .int 0), (0, false, va_rf (some (B 0))), (1, false, .int (nI g)), (2, false, .int x), (3, false, .int (nI f)), (4, false, .int (nI k))]) dX12_walk_64  (by decide) rfl ?_
            refine sp_iload X (pc := 66) (x := (-1)) dX12_walk_66 rfl ?_
            refine sp_iconst X (pc := 68) (v := (-1)) dX12_walk_68 (by decide) ?_
            refine sp_icmp_eq X (pc := 69) (tgt := 94) dX12_walk_69 (by decide) (fun hb69 => ?_) (fun hb69 => ?_)
            · refine sp_aload_n X (pc := 94) (r := some (B 0)) dX12_walk_94 rfl rfl ?_
              refine sp_iload X (pc := 95) (x := (-1)) dX12_walk_95 rfl ?_
              refine sp_putI X (pc := 97) (c := 13) (i := 41) (q := 873) (a := (B 0)) rfl hVm45.r.o (by decide) rfl rfl (Or.inl rfl) ⟨rfl, rfl⟩ fl_Mo_193 dX12_walk_97 ?_
              obtain ⟨m97, hm97⟩ : ∃ xm, xm = (m45.pI 873 (B 0) (-1)) := ⟨_, rfl⟩
              rw [← hm97]
              have hVm97 : sp_V B m0 m97 D R l0 l1 d n b p t e L w45 := by
                rw [hm97]
                exact hVm45.pI (k := 873) _ (by decide)
              have th97 : m97.fI 873 (B 0) = -1 ∨ ∃ j, m97.fI 873 (B 0) = nI j ∧ j < n := by
                rw [hm97]
                rw [sp_pI_fI, if_pos ⟨rfl, rfl⟩]
                first | exact Or.inl rfl | exact Or.inr ⟨j, rfl, hj⟩
              have l97 : m97.fI 872 (B 0) = nI lk := by
                rw [hm97]
                rw [sp_pI_fI, if_neg (by omega)]; exact (hwd45.1 872 (by decide)).trans hlk
              have r97 : sp_rk B [34] m m97 := by
                rw [hm97]
                exact hr45
              clear hm97
              refine sp_iload X (pc := 100) (x := 0) dX12_walk_100 rfl ?_
              refine sp_if_ne X (pc := 102) (tgt := 181) dX12_walk_102 (by decide) (fun hb102 => ?_) (fun hb102 => ?_)
              · first | exact absurd hb102 (by decide) | exact absurd (by decide) hb102
              · refine sp_iload X (pc := 105) (x := (-1)) dX12_walk_105 rfl ?_
                refine sp_iconst X (pc := 107) (v := (-1)) dX12_walk_107 (by decide) ?_
                refine sp_icmp_ne X (pc := 108) (tgt := 150) dX12_walk_108 (by decide) (fun hb108 => ?_) (fun hb108 => ?_)
                · first | exact absurd hb108 (by decide) | exact absurd (by decide) hb108
                · refine sp_iload_n X (pc := 111) (x := x) dX12_walk_111 rfl rfl ?_
                  refine sp_if_ne X (pc := 112) (tgt := 118) dX12_walk_112 (by decide) (fun hb112 => ?_) (fun hb112 => ?_)
                  · refine sp_aload_n X (pc := 118) (r := some (B 0)) dX12_walk_118 rfl rfl ?_
                    refine sp_getfield X (pc := 119) (c := 13) (i := 40) (t := 0) (a := (B 0)) (v := .int (nI lk)) rfl hVm97.r.o (by decide) rfl (congrArg Value.int l97) fl_Mo_186 dX12_walk_119 ?_
                    refine sp_if_ne X (pc := 122) (tgt := 137) dX12_walk_122 (by decide) (fun hb122 => ?_) (fun hb122 => ?_)
                    · refine sp_aload_n X (pc := 137) (r := some (B 0)) dX12_walk_137 rfl rfl ?_
                      refine sp_dup X (pc := 138) dX12_walk_138 (sp_cat_rf _) ?_
                      refine sp_getfield X (pc := 139) (c := 13) (i := 40) (t := 0) (a := (B 0)) (v := .int (nI lk)) rfl hVm97.r.o (by decide) rfl (congrArg Value.int l97) fl_Mo_186 dX12_walk_139 ?_
                      refine sp_iconst X (pc := 142) (v := 1) dX12_walk_142 (by decide) ?_
                      refine sp_iadd X (pc := 143) dX12_walk_143 ?_
                      rw [show ((nI lk) + 1) = (nI (lk + 1)) from (nI_add lk 1)]
                      refine sp_putI X (pc := 144) (c := 13) (i := 40) (q := 872) (a := (B 0)) rfl hVm97.r.o (by decide) rfl rfl (Or.inl rfl) ⟨rfl, rfl⟩ fl_Mo_186 dX12_walk_144 ?_
                      obtain ⟨m144, hm144⟩ : ∃ xm, xm = (m97.pI 872 (B 0) (nI (lk + 1))) := ⟨_, rfl⟩
                      rw [← hm144]
                      have hVm144 : sp_V B m0 m144 D R l0 l1 d n b p t e L w45 := by
                        rw [hm144]
                        exact hVm97.pI (k := 872) _ (by decide)
                      have th144 : m144.fI 873 (B 0) = -1 ∨ ∃ j, m144.fI 873 (B 0) = nI j ∧ j < n := by
                        rw [hm144]
                        rw [sp_pI_fI, if_neg (by omega)]; exact th97
                      have l144 : m144.fI 872 (B 0) = nI (lk + 1) := by
                        rw [hm144]
                        rw [sp_pI_fI, if_pos ⟨rfl, rfl⟩]
                      have r144 : sp_rk B [34] m m144 := by
                        rw [hm144]
                        exact r97
                      clear hm144
                      refine sp_goto X (pc := 147) (tgt := 181) dX12_walk_147 (by decide) ?_
                      refine sp_iinc X (pc := 181) (v := (nI (k + 1))) (lv' := [(4, false, .int (nI (k + 1))), (6, false, .int (-1)), (5, false, .int 0), (0, false, va_rf (some (B 0))), (1, false, .int (nI g)), (2, false, .int x), (3, false, .int (nI f))]) dX12_walk_181 rfl ((sp_i1 k)) (by decide) rfl ?_
                      refine sp_goto X (pc := 184) (tgt := 10) dX12_walk_184 (by decide) ?_
                      refine sp_pick X [3, 4, 5, 6, 0] (lv' := [(0, false, va_rf (some (B 0))), (1, false, .int (nI g)), (2, false, .int x), (3, false, .int (nI f)), (4, false, .int (nI (k + 1)))]) rfl ?_
                      first
                        | exact ih _ (by omega) f (k + 1) (lk + 1) _ _ hf (by omega) (by omega) (by omega) hVm144 r144 l144 (fun _ => th144) rfl
                        | exact ih _ (by omega) j (k + 1) lk _ _ hj (by omega) (by omega) (by omega) hVm97 r97 l97 (fun _ => th97) rfl
                        | exact ih _ (by omega) f (k + 1) lk _ _ hf (by omega) (by omega) (by omega) hVm97 r97 l97 (fun _ => th97) rfl
                    · refine sp_aload_n X (pc := 125) (r := some (B 0)) dX12_walk_125 rfl rfl ?_
                      refine sp_getfield X (pc := 126) (c := 13) (i := 5) (t := 2) (a := (B 0)) (v := va_rf (some (B 5))) rfl hVm97.r.o (by decide) rfl (congrArg va_rf hVm97.f5) fl_Mo_16 dX12_walk_126 ?_
                      refine sp_iload_n X (pc := 129) (x := nI f) dX12_walk_129 rfl rfl ?_
                      refine sp_baload X (pc := 130) (a := (B 5)) rfl hVm97.y5 (sp_in f hVm97.l5 (by omega) (by decide)) dX12_walk_130 ?_
                      rw [show (m97.aI (B 5) (nI f).toNatClampNeg) = (m97.aI (B 5) f) from (congrArg _ (nI_clamp (n := f) (by omega)))]
                      refine sp_if_eq X (pc := 131) (tgt := 137) dX12_walk_131 (by decide) (fun hb131 => ?_) (fun hb131 => ?_)
                      · refine sp_aload_n X (pc := 137) (r := some (B 0)) dX12_walk_137 rfl rfl ?_
                        refine sp_dup X (pc := 138) dX12_walk_138 (sp_cat_rf _) ?_
                        refine sp_getfield X (pc := 139) (c := 13) (i := 40) (t := 0) (a := (B 0)) (v := .int (nI lk)) rfl hVm97.r.o (by decide) rfl (congrArg Value.int l97) fl_Mo_186 dX12_walk_139 ?_
                        refine sp_iconst X (pc := 142) (v := 1) dX12_walk_142 (by decide) ?_
                        refine sp_iadd X (pc := 143) dX12_walk_143 ?_
                        rw [show ((nI lk) + 1) = (nI (lk + 1)) from (nI_add lk 1)]
                        refine sp_putI X (pc := 144) (c := 13) (i := 40) (q := 872) (a := (B 0)) rfl hVm97.r.o (by decide) rfl rfl (Or.inl rfl) ⟨rfl, rfl⟩ fl_Mo_186 dX12_walk_144 ?_
                        obtain ⟨m144, hm144⟩ : ∃ xm, xm = (m97.pI 872 (B 0) (nI (lk + 1))) := ⟨_, rfl⟩
                        rw [← hm144]
                        have hVm144 : sp_V B m0 m144 D R l0 l1 d n b p t e L w45 := by
                          rw [hm144]
                          exact hVm97.pI (k := 872) _ (by decide)
                        have th144 : m144.fI 873 (B 0) = -1 ∨ ∃ j, m144.fI 873 (B 0) = nI j ∧ j < n := by
                          rw [hm144]
                          rw [sp_pI_fI, if_neg (by omega)]; exact th97
                        have l144 : m144.fI 872 (B 0) = nI (lk + 1) := by
                          rw [hm144]
                          rw [sp_pI_fI, if_pos ⟨rfl, rfl⟩]
                        have r144 : sp_rk B [34] m m144 := by
                          rw [hm144]
                          exact r97
                        clear hm144
                        refine sp_goto X (pc := 147) (tgt := 181) dX12_walk_147 (by decide) ?_
                        refine sp_iinc X (pc := 181) (v := (nI (k + 1))) (lv' := [(4, false, .int (nI (k + 1))), (6, false, .int (-1)), (5, false, .int 0), (0, false, va_rf (some (B 0))), (1, false, .int (nI g)), (2, false, .int x), (3, false, .int (nI f))]) dX12_walk_181 rfl ((sp_i1 k)) (by decide) rfl ?_
                        refine sp_goto X (pc := 184) (tgt := 10) dX12_walk_184 (by decide) ?_
                        refine sp_pick X [3, 4, 5, 6, 0] (lv' := [(0, false, va_rf (some (B 0))), (1, false, .int (nI g)), (2, false, .int x), (3, false, .int (nI f)), (4, false, .int (nI (k + 1)))]) rfl ?_
                        first
                          | exact ih _ (by omega) f (k + 1) (lk + 1) _ _ hf (by omega) (by omega) (by omega) hVm144 r144 l144 (fun _ => th144) rfl
                          | exact ih _ (by omega) j (k + 1) lk _ _ hj (by omega) (by omega) (by omega) hVm97 r97 l97 (fun _ => th97) rfl
                          | exact ih _ (by omega) f (k + 1) lk _ _ hf (by omega) (by omega) (by omega) hVm97 r97 l97 (fun _ => th97) rfl
                      · refine sp_bipush X (pc := 134) (v := (-16)) dX12_walk_134 (by decide) ?_
                        refine sp_ireturn X (pc := 136) dX12_walk_136 rfl ⟨_, rfl, ?_⟩
                        exact ⟨_, hVm97, r97, fun z => absurd z (by decide)⟩
                  · refine sp_bipush X (pc := 115) (v := (-13)) dX12_walk_115 (by decide) ?_
                    refine sp_ireturn X (pc := 117) dX12_walk_117 rfl ⟨_, rfl, ?_⟩
                    exact ⟨_, hVm97, r97, fun z => absurd z (by decide)⟩
            · first | exact absurd hb69 (by decide) | exact absurd (by decide) hb69
        · refine sp_iconst X (pc := 34) (v := 1) dX12_walk_34 (by decide) ?_
          refine sp_goto X (pc := 35) (tgt := 39) dX12_walk_35 (by decide) ?_
          refine sp_istore X (pc := 39) (lv' := [(5, false, .int 1), (0, false, va_rf (some (B 0))), (1, false, .int (nI g)), (2, false, .int x), (3, false, .int (nI f)), (4, false, .int (nI k))]) dX12_walk_39  (by decide) rfl ?_
          refine sp_aload_n X (pc := 41) (r := some (B 0)) dX12_walk_41 rfl rfl ?_
          refine sp_iload_n X (pc := 42) (x := nI g) dX12_walk_42 rfl rfl ?_
          refine sp_iload X (pc := 43) (x := nI k) dX12_walk_43 rfl ?_
          refine sp_callV X (pc := 45) (mc := 0) (ms := 0) (b := (B 0)) (c := 13) (r := some (B 0)) (As := [.int (nI g), .int (nI k)]) (rest := []) (c_Mo_partWord l G _ hVm1 hg (by omega)) ok_Mo_partWord rfl hVm1.r.o (by decide) rfl lk_Mo_189 rfl rfl (Nat.zero_le _) (Nat.le_of_ble_eq_true rfl) (Nat.le_of_ble_eq_true rfl) (Nat.zero_le _) (Nat.zero_le _) dX12_walk_45 (sp_kV fun m45 hp45 => ?_)
          obtain ⟨w45, hw45, hVm45, hwd45⟩ := hp45
          have hr45 := hr1.trans (sp_rk.wd hwd45 hVm1.r)
          refine sp_aload_n X (pc := 48) (r := some (B 0)) dX12_walk_48 rfl rfl ?_
          refine sp_getfield X (pc := 49) (c := 13) (i := 40) (t := 0) (a := (B 0)) (v := .int (nI lk)) rfl hVm45.r.o (by decide) rfl (congrArg Value.int ((hwd45.1 872 (by decide)).trans hlk)) fl_Mo_186 dX12_walk_49 ?_
          refine sp_if_le X (pc := 52) (tgt := 59) dX12_walk_52 (by decide) (fun hb52 => ?_) (fun hb52 => ?_)
          · refine sp_aload_n X (pc := 59) (r := some (B 0)) dX12_walk_59 rfl rfl ?_
            refine sp_iload_n X (pc := 60) (x := nI f) dX12_walk_60 rfl rfl ?_
            refine sp_callV X (pc := 61) (mc := 0) (ms := 0) (b := (B 0)) (c := 13) (r := some (B 0)) (As := [.int (nI f)]) (rest := []) (c_Mo_in l G _ hVm45) ok_Mo_in rfl hVm45.r.o (by decide) rfl lk_Mo_171 rfl rfl (Nat.zero_le _) (Nat.le_of_ble_eq_true rfl) (Nat.le_of_ble_eq_true rfl) (Nat.zero_le _) (Nat.zero_le _) dX12_walk_61 (sp_kI fun v61 m61 hp61 => ?_)
            obtain ⟨hp61, hp61m⟩ := hp61; replace hp61m := (hp61m).symm; subst hp61m
            refine sp_istore X (pc := 64) (lv' := [(6, false, .int v61), (5, false, .int 1), (0, false, va_rf (some (B 0))), (1, false, .int (nI g)), (2, false, .int x), (3, false, .int (nI f)), (4, false, .int (nI k))]) dX12_walk_64  (by decide) rfl ?_
            refine sp_iload X (pc := 66) (x := v61) dX12_walk_66 rfl ?_
            refine sp_iconst X (pc := 68) (v := (-1)) dX12_walk_68 (by decide) ?_
            refine sp_icmp_eq X (pc := 69) (tgt := 94) dX12_walk_69 (by decide) (fun hb69 => ?_) (fun hb69 => ?_)
            · subst hb69
              refine sp_aload_n X (pc := 94) (r := some (B 0)) dX12_walk_94 rfl rfl ?_
              refine sp_iload X (pc := 95) (x := (-1)) dX12_walk_95 rfl ?_
              refine sp_putI X (pc := 97) (c := 13) (i := 41) (q := 873) (a := (B 0)) rfl hVm45.r.o (by decide) rfl rfl (Or.inl rfl) ⟨rfl, rfl⟩ fl_Mo_193 dX12_walk_97 ?_
              obtain ⟨m97, hm97⟩ : ∃ xm, xm = (m45.pI 873 (B 0) (-1)) := ⟨_, rfl⟩
              rw [← hm97]
              have hVm97 : sp_V B m0 m97 D R l0 l1 d n b p t e L w45 := by
                rw [hm97]
                exact hVm45.pI (k := 873) _ (by decide)
              have th97 : m97.fI 873 (B 0) = -1 ∨ ∃ j, m97.fI 873 (B 0) = nI j ∧ j < n := by
                rw [hm97]
                rw [sp_pI_fI, if_pos ⟨rfl, rfl⟩]
                first | exact Or.inl rfl | exact Or.inr ⟨j, rfl, hj⟩
              have l97 : m97.fI 872 (B 0) = nI lk := by
                rw [hm97]
                rw [sp_pI_fI, if_neg (by omega)]; exact (hwd45.1 872 (by decide)).trans hlk
              have r97 : sp_rk B [34] m m97 := by
                rw [hm97]
                exact hr45
              clear hm97
              refine sp_iload X (pc := 100) (x := 1) dX12_walk_100 rfl ?_
              refine sp_if_ne X (pc := 102) (tgt := 181) dX12_walk_102 (by decide) (fun hb102 => ?_) (fun hb102 => ?_)
              · refine sp_iinc X (pc := 181) (v := (nI (k + 1))) (lv' := [(4, false, .int (nI (k + 1))), (6, false, .int (-1)), (5, false, .int 1), (0, false, va_rf (some (B 0))), (1, false, .int (nI g)), (2, false, .int x), (3, false, .int (nI f))]) dX12_walk_181 rfl ((sp_i1 k)) (by decide) rfl ?_
                refine sp_goto X (pc := 184) (tgt := 10) dX12_walk_184 (by decide) ?_
                refine sp_pick X [3, 4, 5, 6, 0] (lv' := [(0, false, va_rf (some (B 0))), (1, false, .int (nI g)), (2, false, .int x), (3, false, .int (nI f)), (4, false, .int (nI (k + 1)))]) rfl ?_
                first
                  | exact ih _ (by omega) f (k + 1) (lk + 1) _ _ hf (by omega) (by omega) (by omega) hVm144 r144 l144 (fun _ => th144) rfl
                  | exact ih _ (by omega) j (k + 1) lk _ _ hj (by omega) (by omega) (by omega) hVm97 r97 l97 (fun _ => th97) rfl
                  | exact ih _ (by omega) f (k + 1) lk _ _ hf (by omega) (by omega) (by omega) hVm97 r97 l97 (fun _ => th97) rfl
              · first | exact absurd hb102 (by decide) | exact absurd (by decide) hb102
            · have hj0 : ∃ j, v61 = nI j ∧ j < n := by
                rcases hp61 with z | ⟨j, z1, z2, z3⟩
                · exact absurd z hb69
                · exact ⟨j, z1, z3⟩
              obtain ⟨j, rfl, hj⟩ := hj0
              refine sp_aload_n X (pc := 72) (r := some (B 0)) dX12_walk_72 rfl rfl ?_
              refine sp_iload X (pc := 73) (x := (nI j)) dX12_walk_73 rfl ?_
              refine sp_iconst X (pc := 75) (v := 1) dX12_walk_75 (by decide) ?_
              refine sp_callV X (pc := 76) (mc := 0) (ms := 0) (b := (B 0)) (c := 13) (r := some (B 0)) (As := [.int (nI j), .int 1]) (rest := []) (c_Mo_isNamed l G _ hVm45 hj) ok_Mo_isNamed rfl hVm45.r.o (by decide) rfl lk_Mo_155 rfl rfl (Nat.zero_le _) (Nat.le_of_ble_eq_true rfl) (Nat.le_of_ble_eq_true rfl) (Nat.zero_le _) (Nat.zero_le _) dX12_walk_76 (sp_kI fun v76 m76 hp76 => ?_)
              obtain ⟨hp76, hp76m⟩ := hp76; replace hp76m := (hp76m).symm; subst hp76m
              refine sp_if_ne X (pc := 79) (tgt := 94) dX12_walk_79 (by decide) (fun hb79 => ?_) (fun hb79 => ?_)
              · refine sp_aload_n X (pc := 94) (r := some (B 0)) dX12_walk_94 rfl rfl ?_
                refine sp_iload X (pc := 95) (x := (nI j)) dX12_walk_95 rfl ?_
                refine sp_putI X (pc := 97) (c := 13) (i := 41) (q := 873) (a := (B 0)) rfl hVm45.r.o (by decide) rfl rfl (Or.inl rfl) ⟨rfl, rfl⟩ fl_Mo_193 dX12_walk_97 ?_
                obtain ⟨m97, hm97⟩ : ∃ xm, xm = (m45.pI 873 (B 0) (nI j)) := ⟨_, rfl⟩
                rw [← hm97]
                have hVm97 : sp_V B m0 m97 D R l0 l1 d n b p t e L w45 := by
                  rw [hm97]
                  exact hVm45.pI (k := 873) _ (by decide)
                have th97 : m97.fI 873 (B 0) = -1 ∨ ∃ j, m97.fI 873 (B 0) = nI j ∧ j < n := by
                  rw [hm97]
                  rw [sp_pI_fI, if_pos ⟨rfl, rfl⟩]
                  first | exact Or.inl rfl | exact Or.inr ⟨j, rfl, hj⟩
                have l97 : m97.fI 872 (B 0) = nI lk := by
                  rw [hm97]
                  rw [sp_pI_fI, if_neg (by omega)]; exact (hwd45.1 872 (by decide)).trans hlk
                have r97 : sp_rk B [34] m m97 := by
                  rw [hm97]
                  exact hr45
                clear hm97
                refine sp_iload X (pc := 100) (x := 1) dX12_walk_100 rfl ?_
                refine sp_if_ne X (pc := 102) (tgt := 181) dX12_walk_102 (by decide) (fun hb102 => ?_) (fun hb102 => ?_)
                · refine sp_iinc X (pc := 181) (v := (nI (k + 1))) (lv' := [(4, false, .int (nI (k + 1))), (6, false, .int (nI j)), (5, false, .int 1), (0, false, va_rf (some (B 0))), (1, false, .int (nI g)), (2, false, .int x), (3, false, .int (nI f))]) dX12_walk_181 rfl ((sp_i1 k)) (by decide) rfl ?_
                  refine sp_goto X (pc := 184) (tgt := 10) dX12_walk_184 (by decide) ?_
                  refine sp_pick X [3, 4, 5, 6, 0] (lv' := [(0, false, va_rf (some (B 0))), (1, false, .int (nI g)), (2, false, .int x), (3, false, .int (nI f)), (4, false, .int (nI (k + 1)))]) rfl ?_
                  first
                    | exact ih _ (by omega) f (k + 1) (lk + 1) _ _ hf (by omega) (by omega) (by omega) hVm144 r144 l144 (fun _ => th144) rfl
                    | exact ih _ (by omega) j (k + 1) lk _ _ hj (by omega) (by omega) (by omega) hVm97 r97 l97 (fun _ => th97) rfl
                    | exact ih _ (by omega) f (k + 1) lk _ _ hf (by omega) (by omega) (by omega) hVm97 r97 l97 (fun _ => th97) rfl
                · first | exact absurd hb102 (by decide) | exact absurd (by decide) hb102
              · refine sp_aload_n X (pc := 82) (r := some (B 0)) dX12_walk_82 rfl rfl ?_
                refine sp_bipush X (pc := 83) (v := 16) dX12_walk_83 (by decide) ?_
                refine sp_callV X (pc := 85) (mc := 0) (ms := 0) (b := (B 0)) (c := 13) (r := some (B 0)) (As := [.int 16]) (rest := []) (c_Mo_hasRule l G _ hVm45) ok_Mo_hasRule rfl hVm45.r.o (by decide) rfl lk_Mo_118 rfl rfl (Nat.zero_le _) (Nat.le_of_ble_eq_true rfl) (Nat.le_of_ble_eq_true rfl) (Nat.zero_le _) (Nat.zero_le _) dX12_walk_85 (sp_kI fun v85 m85 hp85 => ?_)
                obtain ⟨hp85v, hp85⟩ := hp85; replace hp85 := (hp85).symm; subst hp85; replace hp85v := (hp85v).symm; subst hp85v
                refine sp_if_ne X (pc := 88) (tgt := 94) dX12_walk_88 (by decide) (fun hb88 => ?_) (fun hb88 => ?_)
                · refine sp_aload_n X (pc := 94) (r := some (B 0)) dX12_walk_94 rfl rfl ?_
                  refine sp_iload X (pc := 95) (x := (nI j)) dX12_walk_95 rfl ?_
                  refine sp_putI X (pc := 97) (c := 13) (i := 41) (q := 873) (a := (B 0)) rfl hVm45.r.o (by decide) rfl rfl (Or.inl rfl) ⟨rfl, rfl⟩ fl_Mo_193 dX12_walk_97 ?_
                  obtain ⟨m97, hm97⟩ : ∃ xm, xm = (m45.pI 873 (B 0) (nI j)) := ⟨_, rfl⟩
                  rw [← hm97]
                  have hVm97 : sp_V B m0 m97 D R l0 l1 d n b p t e L w45 := by
                    rw [hm97]
                    exact hVm45.pI (k := 873) _ (by decide)
                  have th97 : m97.fI 873 (B 0) = -1 ∨ ∃ j, m97.fI 873 (B 0) = nI j ∧ j < n := by
                    rw [hm97]
                    rw [sp_pI_fI, if_pos ⟨rfl, rfl⟩]
                    first | exact Or.inl rfl | exact Or.inr ⟨j, rfl, hj⟩
                  have l97 : m97.fI 872 (B 0) = nI lk := by
                    rw [hm97]
                    rw [sp_pI_fI, if_neg (by omega)]; exact (hwd45.1 872 (by decide)).trans hlk
                  have r97 : sp_rk B [34] m m97 := by
                    rw [hm97]
                    exact hr45
                  clear hm97
                  refine sp_iload X (pc := 100) (x := 1) dX12_walk_100 rfl ?_
                  refine sp_if_ne X (pc := 102) (tgt := 181) dX12_walk_102 (by decide) (fun hb102 => ?_) (fun hb102 => ?_)
                  · refine sp_iinc X (pc := 181) (v := (nI (k + 1))) (lv' := [(4, false, .int (nI (k + 1))), (6, false, .int (nI j)), (5, false, .int 1), (0, false, va_rf (some (B 0))), (1, false, .int (nI g)), (2, false, .int x), (3, false, .int (nI f))]) dX12_walk_181 rfl ((sp_i1 k)) (by decide) rfl ?_
                    refine sp_goto X (pc := 184) (tgt := 10) dX12_walk_184 (by decide) ?_
                    refine sp_pick X [3, 4, 5, 6, 0] (lv' := [(0, false, va_rf (some (B 0))), (1, false, .int (nI g)), (2, false, .int x), (3, false, .int (nI f)), (4, false, .int (nI (k + 1)))]) rfl ?_
                    first
                      | exact ih _ (by omega) f (k + 1) (lk + 1) _ _ hf (by omega) (by omega) (by omega) hVm144 r144 l144 (fun _ => th144) rfl
                      | exact ih _ (by omega) j (k + 1) lk _ _ hj (by omega) (by omega) (by omega) hVm97 r97 l97 (fun _ => th97) rfl
                      | exact ih _ (by omega) f (k + 1) lk _ _ hf (by omega) (by omega) (by omega) hVm97 r97 l97 (fun _ => th97) rfl
                  · first | exact absurd hb102 (by decide) | exact absurd (by decide) hb102
                · refine sp_bipush X (pc := 91) (v := (-12)) dX12_walk_91 (by decide) ?_
                  refine sp_ireturn X (pc := 93) dX12_walk_93 rfl ⟨_, rfl, ?_⟩
                  exact ⟨_, hVm45, hr45, fun z => absurd z (by decide)⟩
          · refine sp_iconst X (pc := 55) (v := (-1)) dX12_walk_55 (by decide) ?_
            refine sp_goto X (pc := 56) (tgt := 64) dX12_walk_56 (by decide) ?_
            refine sp_istore X (pc := 64) (lv' := [(6, false, .int (-1)), (5, false, .int 1), (0, false, va_rf (some (B 0))), (1, false, .int (nI g)), (2, false, .int x), (3, false, .int (nI f)), (4, false, .int (nI k))]) dX12_walk_64  (by decide) rfl ?_
            refine sp_iload X (pc := 66) (x := (-1)) dX12_walk_66 rfl ?_
            refine sp_iconst X (pc := 68) (v := (-1)) dX12_walk_68 (by decide) ?_
            refine sp_icmp_eq X (pc := 69) (tgt := 94) dX12_walk_69 (by decide) (fun hb69 => ?_) (fun hb69 => ?_)
            · refine sp_aload_n X (pc := 94) (r := some (B 0)) dX12_walk_94 rfl rfl ?_
              refine sp_iload X (pc := 95) (x := (-1)) dX12_walk_95 rfl ?_
              refine sp_putI X (pc := 97) (c := 13) (i := 41) (q := 873) (a := (B 0)) rfl hVm45.r.o (by decide) rfl rfl (Or.inl rfl) ⟨rfl, rfl⟩ fl_Mo_193 dX12_walk_97 ?_
              obtain ⟨m97, hm97⟩ : ∃ xm, xm = (m45.pI 873 (B 0) (-1)) := ⟨_, rfl⟩
              rw [← hm97]
              have hVm97 : sp_V B m0 m97 D R l0 l1 d n b p t e L w45 := by
                rw [hm97]
                exact hVm45.pI (k := 873) _ (by decide)
              have th97 : m97.fI 873 (B 0) = -1 ∨ ∃ j, m97.fI 873 (B 0) = nI j ∧ j < n := by
                rw [hm97]
                rw [sp_pI_fI, if_pos ⟨rfl, rfl⟩]
                first | exact Or.inl rfl | exact Or.inr ⟨j, rfl, hj⟩
              have l97 : m97.fI 872 (B 0) = nI lk := by
                rw [hm97]
                rw [sp_pI_fI, if_neg (by omega)]; exact (hwd45.1 872 (by decide)).trans hlk
              have r97 : sp_rk B [34] m m97 := by
                rw [hm97]
                exact hr45
              clear hm97
              refine sp_iload X (pc := 100) (x := 1) dX12_walk_100 rfl ?_
              refine sp_if_ne X (pc := 102) (tgt := 181) dX12_walk_102 (by decide) (fun hb102 => ?_) (fun hb102 => ?_)
              · refine sp_iinc X (pc := 181) (v := (nI (k + 1))) (lv' := [(4, false, .int (nI (k + 1))), (6, false, .int (-1)), (5, false, .int 1), (0, false, va_rf (some (B 0))), (1, false, .int (nI g)), (2, false, .int x), (3, false, .int (nI f))]) dX12_walk_181 rfl ((sp_i1 k)) (by decide) rfl ?_
                refine sp_goto X (pc := 184) (tgt := 10) dX12_walk_184 (by decide) ?_
                refine sp_pick X [3, 4, 5, 6, 0] (lv' := [(0, false, va_rf (some (B 0))), (1, false, .int (nI g)), (2, false, .int x), (3, false, .int (nI f)), (4, false, .int (nI (k + 1)))]) rfl ?_
                first
                  | exact ih _ (by omega) f (k + 1) (lk + 1) _ _ hf (by omega) (by omega) (by omega) hVm144 r144 l144 (fun _ => th144) rfl
                  | exact ih _ (by omega) j (k + 1) lk _ _ hj (by omega) (by omega) (by omega) hVm97 r97 l97 (fun _ => th97) rfl
                  | exact ih _ (by omega) f (k + 1) lk _ _ hf (by omega) (by omega) (by omega) hVm97 r97 l97 (fun _ => th97) rfl
              · first | exact absurd hb102 (by decide) | exact absurd (by decide) hb102
            · first | exact absurd hb69 (by decide) | exact absurd (by decide) hb69
  refine sp_pick X [2, 3, 4, 1, 0] (lv' := [(0, false, va_rf (some (B 0))), (1, false, .int (nI g)), (2, false, .int x), (3, false, .int 1), (4, false, .int 0)]) rfl ?_
  exact loop10 _ 1 0 0 _ _ (by omega) (Nat.zero_le _) (Nat.le_refl _) (by omega) hVm4 r4 l4 (fun z => absurd z (by decide)) rfl
set_option maxRecDepth 20000 in
theorem c_Mo_fileAt (l : Launch) (G : sp_G) (m : sp_M) {B : Nat → Nat} {m0 : sp_M} {D : Nat → Int32} {R : Int32} {l0 l1 : Int64} {d n b p t e L ws : Nat} (hVm : sp_V B m0 m D R l0 l1 d n b p t e L ws) {g : Nat} (hg : g < p) (h4 : 4 ≤ n) : sp_C l G M_Mo_fileAt 0 0 [.ref (B 0), .int (nI g)] m (sp_oI fun v m' => ∃ w', sp_V B m0 m' D R l0 l1 d n b p t e L w' ∧ sp_rk B [34] m m' ∧ (v = -1 ∨ ∃ j, v = nI j ∧ j < n)) := by
  refine sp_enter (lv0 := [(0, false, va_rf (some (B 0))), (1, false, .int (nI g))]) "SafePathsModel" false rfl (by decide) (fun h => by cases h) (Nat.le_of_ble_eq_true rfl) rfl ?_
  intro w X
  have bd := hVm.hd
  have bn := hVm.hn
  have bb := hVm.hb
  have bp := hVm.hp
  have bt := hVm.ht
  have be := hVm.he
  have bw := hVm.hw
  have bL := hVm.hL
  refine sp_aload_n X (pc := 0) (r := some (B 0)) dX12_fileAt_0 rfl rfl ?_
  refine sp_iload_n X (pc := 1) (x := nI g) dX12_fileAt_1 rfl rfl ?_
  refine sp_iconst X (pc := 2) (v := 0) dX12_fileAt_2 (by decide) ?_
  refine sp_callV X (pc := 3) (mc := 0) (ms := 0) (b := (B 0)) (c := 13) (r := some (B 0)) (As := [.int (nI g), .int 0]) (rest := []) (c_Mo_walk l G _ hVm hg h4) ok_Mo_walk rfl hVm.r.o (by decide) rfl lk_Mo_199 rfl rfl (Nat.zero_le _) (Nat.le_of_ble_eq_true rfl) (Nat.le_of_ble_eq_true rfl) (Nat.zero_le _) (Nat.zero_le _) dX12_fileAt_3 (sp_kI fun v3 m3 hp3 => ?_)
  obtain ⟨w3, hVm3, hr3, hc3⟩ := hp3
  refine sp_istore_n X (pc := 6) (lv' := [(2, false, .int v3), (0, false, va_rf (some (B 0))), (1, false, .int (nI g))]) dX12_fileAt_6 rfl (by decide) rfl ?_
  refine sp_iload_n X (pc := 7) (x := v3) dX12_fileAt_7 rfl rfl ?_
  refine sp_if_ne X (pc := 8) (tgt := 39) dX12_fileAt_8 (by decide) (fun hb8 => ?_) (fun hb8 => ?_)
  · refine sp_iconst X (pc := 39) (v := (-1)) dX12_fileAt_39 (by decide) ?_
    refine sp_ireturn X (pc := 40) dX12_fileAt_40 rfl ⟨_, rfl, ?_⟩
    first | exact ⟨_, hVm3, hr3, Or.inl rfl⟩ | exact ⟨_, hVm3, hr3, Or.inr ⟨j, rfl, hjn⟩⟩
  · obtain ⟨f, lk, q, -, -, -, -, -, -, hth⟩ := hc3 hb8
    refine sp_aload_n X (pc := 11) (r := some (B 0)) dX12_fileAt_11 rfl rfl ?_
    refine sp_getfield X (pc := 12) (c := 13) (i := 41) (t := 0) (a := (B 0)) (v := .int (m3.fI 873 (B 0))) rfl hVm3.r.o (by decide) rfl rfl fl_Mo_193 dX12_fileAt_12 ?_
    refine sp_iconst X (pc := 15) (v := (-1)) dX12_fileAt_15 (by decide) ?_
    refine sp_icmp_eq X (pc := 16) (tgt := 39) dX12_fileAt_16 (by decide) (fun hb16 => ?_) (fun hb16 => ?_)
    · refine sp_iconst X (pc := 39) (v := (-1)) dX12_fileAt_39 (by decide) ?_
      refine sp_ireturn X (pc := 40) dX12_fileAt_40 rfl ⟨_, rfl, ?_⟩
      first | exact ⟨_, hVm3, hr3, Or.inl rfl⟩ | exact ⟨_, hVm3, hr3, Or.inr ⟨j, rfl, hjn⟩⟩
    · have hj0 : ∃ j, m3.fI 873 (B 0) = nI j ∧ j < n := by
        rcases hth with z | z
        · exact absurd z hb16
        · exact z
      obtain ⟨j, hj, hjn⟩ := hj0
      refine sp_aload_n X (pc := 19) (r := some (B 0)) dX12_fileAt_19 rfl rfl ?_
      refine sp_getfield X (pc := 20) (c := 13) (i := 4) (t := 2) (a := (B 0)) (v := va_rf (some (B 4))) rfl hVm3.r.o (by decide) rfl (congrArg va_rf hVm3.f4) fl_Mo_13 dX12_fileAt_20 ?_
      refine sp_aload_n X (pc := 23) (r := some (B 0)) dX12_fileAt_23 rfl rfl ?_
      refine sp_getfield X (pc := 24) (c := 13) (i := 41) (t := 0) (a := (B 0)) (v := .int (nI j)) rfl hVm3.r.o (by decide) rfl (congrArg Value.int hj) fl_Mo_193 dX12_fileAt_24 ?_
      refine sp_iaload X (pc := 27) (a := (B 4)) rfl (Or.inl hVm3.y4) (sp_in j hVm3.l4 (by omega) (by decide)) dX12_fileAt_27 ?_
      rw [show (m3.aI (B 4) (nI j).toNatClampNeg) = (m3.aI (B 4) j) from (congrArg _ (nI_clamp (n := j) (by omega)))]
      refine sp_iconst X (pc := 28) (v := 1) dX12_fileAt_28 (by decide) ?_
      refine sp_icmp_ne X (pc := 29) (tgt := 39) dX12_fileAt_29 (by decide) (fun hb29 => ?_) (fun hb29 => ?_)
      · refine sp_iconst X (pc := 39) (v := (-1)) dX12_fileAt_39 (by decide) ?_
        refine sp_ireturn X (pc := 40) dX12_fileAt_40 rfl ⟨_, rfl, ?_⟩
        first | exact ⟨_, hVm3, hr3, Or.inl rfl⟩ | exact ⟨_, hVm3, hr3, Or.inr ⟨j, rfl, hjn⟩⟩
      · refine sp_aload_n X (pc := 32) (r := some (B 0)) dX12_fileAt_32 rfl rfl ?_
        refine sp_getfield X (pc := 33) (c := 13) (i := 41) (t := 0) (a := (B 0)) (v := .int (nI j)) rfl hVm3.r.o (by decide) rfl (congrArg Value.int hj) fl_Mo_193 dX12_fileAt_33 ?_
        refine sp_goto X (pc := 36) (tgt := 40) dX12_fileAt_36 (by decide) ?_
        refine sp_ireturn X (pc := 40) dX12_fileAt_40 rfl ⟨_, rfl, ?_⟩
        first | exact ⟨_, hVm3, hr3, Or.inl rfl⟩ | exact ⟨_, hVm3, hr3, Or.inr ⟨j, rfl, hjn⟩⟩
set_option maxHeartbeats 4000000 in
set_option maxRecDepth 20000 in
theorem c_Mo_comes (l : Launch) (G : sp_G) (m : sp_M) {B : Nat → Nat} {m0 : sp_M} {D : Nat → Int32} {R : Int32} {l0 l1 : Int64} {d n b p t e ws : Nat} (hVm : sp_V B m0 m D R l0 l1 d n b p t e n ws) {e1 f lk g q : Nat} {th dd bo : Int32} (he1 : e1 < e) (hf : f < n) (hlk : n + lk + 1 ≤ 200) (hg : m.aI (B 26) e1 = nI g) (hgp : g < p) (hq : m.aI (B 18) g = nI q) (hlq : lk + 1 ≤ q) (hq8 : q ≤ 8) (hth : th = -1 ∨ ∃ j, th = nI j ∧ j < n) (hdd : sp_b01 dd) : sp_C l G M_Mo_comes 0 0 [.ref (B 0), .int (nI e1), .int (nI f), .int (nI lk), .int th, .int dd, .int bo] m (sp_oI fun v m' => ∃ n' b' w', sp_V B m0 m' D R l0 l1 d n' b' p t e n' w' ∧ n ≤ n' ∧ sp_rk B [4, 6, 7, 8, 9, 10, 11, 12, 16, 34, 36, 37] m m') := by
  refine sp_enter (lv0 := [(0, false, va_rf (some (B 0))), (1, false, .int (nI e1)), (2, false, .int (nI f)), (3, false, .int (nI lk)), (4, false, .int th), (5, false, .int dd), (6, false, .int bo)]) "SafePathsModel" false rfl (by decide) (fun h => by cases h) (Nat.le_of_ble_eq_true rfl) rfl ?_
  intro w X
  have bd := hVm.hd
  have bn := hVm.hn
  have bb := hVm.hb
  have bp := hVm.hp
  have bt := hVm.ht
  have be := hVm.he
  have bw := hVm.hw
  have bL := hVm.hL
  have rkm : sp_rk B [4, 6, 7, 8, 9, 10, 11, 12, 16, 34, 36, 37] m m := sp_rk.refl _ _ _
  have cut128 : ∀ (kd kk : Int32) (n1 w1 : Nat) (m1 : sp_M), sp_rk B [4, 6, 7, 8, 9, 10, 11, 12, 16, 34, 36, 37] m m1 → sp_V B m0 m1 D R l0 l1 d (n1 + 1) b p t e n1 w1 → m1.aI (B 4) n1 = kd → (kd = 2 → kk = 2) → (kk = 2 → ∃ q, m1.aI (B 27) e1 = nI q ∧ q < t) → n ≤ n1 → n1 + 1 ≤ 200 → b ≤ n1 → w 0 0 m1 128 [(0, false, va_rf (some (B 0))), (1, false, .int (nI e1)), (5, false, .int dd), (6, false, .int bo), (10, false, .int kk), (11, false, .int (nI n1))] [] := by
    intro kd kk n1 w1 m1 rkm1 hVm1 h4k hkd hk27 hnn hn200 hbn
    refine sp_iload X (pc := 128) (x := kk) dX12_comes_128 rfl ?_
    refine sp_if_ne X (pc := 130) (tgt := 149) dX12_comes_130 (by decide) (fun hb130 => ?_) (fun hb130 => ?_)
    · refine sp_iload X (pc := 149) (x := kk) dX12_comes_149 rfl ?_
      refine sp_iconst X (pc := 151) (v := 1) dX12_comes_151 (by decide) ?_
      refine sp_icmp_ne X (pc := 152) (tgt := 224) dX12_comes_152 (by decide) (fun hb152 => ?_) (fun hb152 => ?_)
      · refine sp_iload X (pc := 224) (x := kk) dX12_comes_224 rfl ?_
        refine sp_iconst X (pc := 226) (v := 2) dX12_comes_226 (by decide) ?_
        refine sp_icmp_ne X (pc := 227) (tgt := 255) dX12_comes_227 (by decide) (fun hb227 => ?_) (fun hb227 => ?_)
        · refine sp_aload_n X (pc := 255) (r := some (B 0)) dX12_comes_255 rfl rfl ?_
          refine sp_getfield X (pc := 256) (c := 13) (i := 9) (t := 2) (a := (B 0)) (v := va_rf (some (B 9))) rfl hVm1.r.o (by decide) rfl (congrArg va_rf hVm1.f9) fl_Mo_29 dX12_comes_256 ?_
          refine sp_iload X (pc := 259) (x := nI n1) dX12_comes_259 rfl ?_
          refine sp_iload X (pc := 261) (x := bo) dX12_comes_261 rfl ?_
          refine sp_iastore X (pc := 263) (a := (B 9)) rfl hVm1.y9 (sp_in n1 hVm1.l9 (by omega) (by decide))  dX12_comes_263 ?_
          rw [show (nI n1).toNatClampNeg = n1 from (nI_clamp (n := n1) (by omega))]
          obtain ⟨m263, hm263⟩ : ∃ xm, xm = (m1.sI (B 9) n1 bo) := ⟨_, rfl⟩
          rw [← hm263]
          have hVm263 : sp_V B m0 m263 D R l0 l1 d (n1 + 1) b p t e n1 w1 := by
            rw [hm263]
            exact hVm1.sI 9 n1 _ (by decide) (by decide) (Nat.le_refl _)
          have rkm263 : sp_rk B [4, 6, 7, 8, 9, 10, 11, 12, 16, 34, 36, 37] m m263 := by
            rw [hm263]
            exact rkm1.sI hVm1.r 9 _ _ (by decide) (by decide)
          have k263 : m263.aI (B 4) n1 = kd := by
            rw [hm263]
            rw [sp_sI_aI, if_neg (fun z => hVm1.ne 4 9 (by decide) (by decide) (by decide) z.1)]; exact h4k
          clear hm263
          refine sp_iload X (pc := 264) (x := nI n1) dX12_comes_264 rfl ?_
          refine sp_ireturn X (pc := 266) dX12_comes_266 rfl ⟨_, rfl, ?_⟩
          first
            | exact ⟨_, _, _, hVm143.tL (fun j q1 q2 q3 => by
                  obtain rfl : j = n1 := by omega
                  rw [k143] at q3
                  have := hkd q3
                  rw [this] at hb130
                  exact absurd hb130 (by decide)), by omega, rkm143⟩
            | exact ⟨_, _, _, hVm218.tL (fun j q1 q2 q3 => by
                  obtain rfl : j = n1 := by omega
                  rw [k218] at q3
                  have := hkd q3
                  rw [this] at hb152
                  exact absurd hb152 (by decide)), by omega, rkm218⟩
            | exact ⟨_, _, _, hVm251.tL (fun j q1 q2 _ => ⟨g2, by
                obtain rfl : j = n1 := by omega
                exact c9b, hg2t⟩), by omega, rkm251⟩
            | exact ⟨_, _, _, hVm263.tL (fun j q1 q2 q3 => by
                obtain rfl : j = n1 := by omega
                rw [k263] at q3
                exact absurd (hkd q3) hb227), by omega, rkm263⟩
        · refine sp_aload_n X (pc := 230) (r := some (B 0)) dX12_comes_230 rfl rfl ?_
          refine sp_getfield X (pc := 231) (c := 13) (i := 9) (t := 2) (a := (B 0)) (v := va_rf (some (B 9))) rfl hVm1.r.o (by decide) rfl (congrArg va_rf hVm1.f9) fl_Mo_29 dX12_comes_231 ?_
          refine sp_iload X (pc := 234) (x := nI n1) dX12_comes_234 rfl ?_
          refine sp_aload_n X (pc := 236) (r := some (B 0)) dX12_comes_236 rfl rfl ?_
          refine sp_getfield X (pc := 237) (c := 13) (i := 27) (t := 2) (a := (B 0)) (v := va_rf (some (B 27))) rfl hVm1.r.o (by decide) rfl (congrArg va_rf hVm1.f27) fl_Mo_69 dX12_comes_237 ?_
          refine sp_iload_n X (pc := 240) (x := nI e1) dX12_comes_240 rfl rfl ?_
          obtain ⟨g2, hg2, hg2t⟩ := hk27 hb227
          refine sp_iaload X (pc := 241) (a := (B 27)) rfl (Or.inl hVm1.y27) (sp_in e1 hVm1.l27 (by omega) (by decide)) dX12_comes_241 ?_
          rw [show (m1.aI (B 27) (nI e1).toNatClampNeg) = (m1.aI (B 27) e1) from (congrArg _ (nI_clamp (n := e1) (by omega)))]
          rw [show (m1.aI (B 27) e1) = (nI g2) from hg2]
          refine sp_iastore X (pc := 242) (a := (B 9)) rfl hVm1.y9 (sp_in n1 hVm1.l9 (by omega) (by decide))  dX12_comes_242 ?_
          rw [show (nI n1).toNatClampNeg = n1 from (nI_clamp (n := n1) (by omega))]
          obtain ⟨m242, hm242⟩ : ∃ xm, xm = (m1.sI (B 9) n1 (nI g2)) := ⟨_, rfl⟩
          rw [← hm242]
          have hVm242 : sp_V B m0 m242 D R l0 l1 d (n1 + 1) b p t e n1 w1 := by
            rw [hm242]
            exact hVm1.sI 9 n1 _ (by decide) (by decide) (Nat.le_refl _)
          have rkm242 : sp_rk B [4, 6, 7, 8, 9, 10, 11, 12, 16, 34, 36, 37] m m242 := by
            rw [hm242]
            exact rkm1.sI hVm1.r 9 _ _ (by decide) (by decide)
          have c9 : m242.aI (B 9) n1 = nI g2 := by
            rw [hm242]
            rw [sp_sI_aI, if_pos ⟨rfl, rfl⟩]
          clear hm242
          refine sp_aload_n X (pc := 243) (r := some (B 0)) dX12_comes_243 rfl rfl ?_
          refine sp_getfield X (pc := 244) (c := 13) (i := 6) (t := 2) (a := (B 0)) (v := va_rf (some (B 6))) rfl hVm242.r.o (by decide) rfl (congrArg va_rf hVm242.f6) fl_Mo_20 dX12_comes_244 ?_
          refine sp_iload X (pc := 247) (x := nI n1) dX12_comes_247 rfl ?_
          refine sp_iload X (pc := 249) (x := dd) dX12_comes_249 rfl ?_
          refine sp_bastore X (pc := 251) (a := (B 6)) rfl hVm242.y6 (sp_in n1 hVm242.l6 (by omega) (by decide)) hdd.nar dX12_comes_251 ?_
          rw [show (nI n1).toNatClampNeg = n1 from (nI_clamp (n := n1) (by omega))]
          obtain ⟨m251, hm251⟩ : ∃ xm, xm = (m242.sI (B 6) n1 dd) := ⟨_, rfl⟩
          rw [← hm251]
          have hVm251 : sp_V B m0 m251 D R l0 l1 d (n1 + 1) b p t e n1 w1 := by
            rw [hm251]
            exact hVm242.sI 6 n1 _ (by decide) (by decide) (Nat.zero_le _)
          have rkm251 : sp_rk B [4, 6, 7, 8, 9, 10, 11, 12, 16, 34, 36, 37] m m251 := by
            rw [hm251]
            exact rkm242.sI hVm242.r 6 _ _ (by decide) (by decide)
          have c9b : m251.aI (B 9) n1 = nI g2 := by
            rw [hm251]
            rw [sp_sI_aI, if_neg (fun z => hVm1.ne 9 6 (by decide) (by decide) (by decide) z.1)]; exact c9
          clear hm251
          refine sp_goto X (pc := 252) (tgt := 264) dX12_comes_252 (by decide) ?_
          refine sp_iload X (pc := 264) (x := nI n1) dX12_comes_264 rfl ?_
          refine sp_ireturn X (pc := 266) dX12_comes_266 rfl ⟨_, rfl, ?_⟩
          first
            | exact ⟨_, _, _, hVm143.tL (fun j q1 q2 q3 => by
                  obtain rfl : j = n1 := by omega
                  rw [k143] at q3
                  have := hkd q3
                  rw [this] at hb130
                  exact absurd hb130 (by decide)), by omega, rkm143⟩
            | exact ⟨_, _, _, hVm218.tL (fun j q1 q2 q3 => by
                  obtain rfl : j = n1 := by omega
                  rw [k218] at q3
                  have := hkd q3
                  rw [this] at hb152
                  exact absurd hb152 (by decide)), by omega, rkm218⟩
            | exact ⟨_, _, _, hVm251.tL (fun j q1 q2 _ => ⟨g2, by
                obtain rfl : j = n1 := by omega
                exact c9b, hg2t⟩), by omega, rkm251⟩
            | exact ⟨_, _, _, hVm263.tL (fun j q1 q2 q3 => by
                obtain rfl : j = n1 := by omega
                rw [k263] at q3
                exact absurd (hkd q3) hb227), by omega, rkm263⟩
      · refine sp_aload_n X (pc := 155) (r := some (B 0)) dX12_comes_155 rfl rfl ?_
        refine sp_getfield X (pc := 156) (c := 13) (i := 9) (t := 2) (a := (B 0)) (v := va_rf (some (B 9))) rfl hVm1.r.o (by decide) rfl (congrArg va_rf hVm1.f9) fl_Mo_29 dX12_comes_156 ?_
        refine sp_iload X (pc := 159) (x := nI n1) dX12_comes_159 rfl ?_
        refine sp_aload_n X (pc := 161) (r := some (B 0)) dX12_comes_161 rfl rfl ?_
        refine sp_getfield X (pc := 162) (c := 13) (i := 14) (t := 0) (a := (B 0)) (v := .int (nI b)) rfl hVm1.r.o (by decide) rfl (congrArg Value.int hVm1.cb) fl_Mo_112 dX12_comes_162 ?_
        refine sp_iastore X (pc := 165) (a := (B 9)) rfl hVm1.y9 (sp_in n1 hVm1.l9 (by omega) (by decide))  dX12_comes_165 ?_
        rw [show (nI n1).toNatClampNeg = n1 from (nI_clamp (n := n1) (by omega))]
        obtain ⟨m165, hm165⟩ : ∃ xm, xm = (m1.sI (B 9) n1 (nI b)) := ⟨_, rfl⟩
        rw [← hm165]
        have hVm165 : sp_V B m0 m165 D R l0 l1 d (n1 + 1) b p t e n1 w1 := by
          rw [hm165]
          exact hVm1.sI 9 n1 _ (by decide) (by decide) (Nat.le_refl _)
        have rkm165 : sp_rk B [4, 6, 7, 8, 9, 10, 11, 12, 16, 34, 36, 37] m m165 := by
          rw [hm165]
          exact rkm1.sI hVm1.r 9 _ _ (by decide) (by decide)
        have k165 : m165.aI (B 4) n1 = kd := by
          rw [hm165]
          rw [sp_sI_aI, if_neg (fun z => hVm1.ne 4 9 (by decide) (by decide) (by decide) z.1)]; exact h4k
        clear hm165
        refine sp_aload_n X (pc := 166) (r := some (B 0)) dX12_comes_166 rfl rfl ?_
        refine sp_getfield X (pc := 167) (c := 13) (i := 15) (t := 2) (a := (B 0)) (v := va_rf (some (B 15))) rfl hVm165.r.o (by decide) rfl (congrArg va_rf hVm165.f15) fl_Mo_41 dX12_comes_167 ?_
        refine sp_aload_n X (pc := 170) (r := some (B 0)) dX12_comes_170 rfl rfl ?_
        refine sp_getfield X (pc := 171) (c := 13) (i := 14) (t := 0) (a := (B 0)) (v := .int (nI b)) rfl hVm165.r.o (by decide) rfl (congrArg Value.int hVm165.cb) fl_Mo_112 dX12_comes_171 ?_
        refine sp_aload_n X (pc := 174) (r := some (B 0)) dX12_comes_174 rfl rfl ?_
        refine sp_getfield X (pc := 175) (c := 13) (i := 28) (t := 2) (a := (B 0)) (v := va_rf (some (B 28))) rfl hVm165.r.o (by decide) rfl (congrArg va_rf hVm165.f28) fl_Mo_72 dX12_comes_175 ?_
        refine sp_iload_n X (pc := 178) (x := nI e1) dX12_comes_178 rfl rfl ?_
        refine sp_laload X (pc := 179) (a := (B 28)) rfl hVm165.y28 (sp_in e1 hVm165.l28 (by omega) (by decide)) dX12_comes_179 ?_
        rw [show (m165.aL (B 28) (nI e1).toNatClampNeg) = (m165.aL (B 28) e1) from (congrArg _ (nI_clamp (n := e1) (by omega)))]
        refine sp_lastore X (pc := 180) (a := (B 15)) rfl hVm165.y15 (sp_in b hVm165.l15 (by omega) (by decide))  dX12_comes_180 ?_
        rw [show (nI b).toNatClampNeg = b from (nI_clamp (n := b) (by omega))]
        obtain ⟨m180, hm180⟩ : ∃ xm, xm = (m165.sL (B 15) b (m165.aL (B 28) e1)) := ⟨_, rfl⟩
        rw [← hm180]
        have hVm180 : sp_V B m0 m180 D R l0 l1 d (n1 + 1) b p t e n1 w1 := by
          rw [hm180]
          exact hVm165.sL (k := 15) b _ (by decide)
        have rkm180 : sp_rk B [4, 6, 7, 8, 9, 10, 11, 12, 16, 34, 36, 37] m m180 := by
          rw [hm180]
          exact rkm165
        have k180 : m180.aI (B 4) n1 = kd := by
          rw [hm180]
          exact k165
        clear hm180
        refine sp_aload_n X (pc := 181) (r := some (B 0)) dX12_comes_181 rfl rfl ?_
        refine sp_getfield X (pc := 182) (c := 13) (i := 16) (t := 2) (a := (B 0)) (v := va_rf (some (B 16))) rfl hVm180.r.o (by decide) rfl (congrArg va_rf hVm180.f16) fl_Mo_45 dX12_comes_182 ?_
        refine sp_aload_n X (pc := 185) (r := some (B 0)) dX12_comes_185 rfl rfl ?_
        refine sp_getfield X (pc := 186) (c := 13) (i := 14) (t := 0) (a := (B 0)) (v := .int (nI b)) rfl hVm180.r.o (by decide) rfl (congrArg Value.int hVm180.cb) fl_Mo_112 dX12_comes_186 ?_
        refine sp_aload_n X (pc := 189) (r := some (B 0)) dX12_comes_189 rfl rfl ?_
        refine sp_getfield X (pc := 190) (c := 13) (i := 27) (t := 2) (a := (B 0)) (v := va_rf (some (B 27))) rfl hVm180.r.o (by decide) rfl (congrArg va_rf hVm180.f27) fl_Mo_69 dX12_comes_190 ?_
        refine sp_iload_n X (pc := 193) (x := nI e1) dX12_comes_193 rfl rfl ?_
        refine sp_iaload X (pc := 194) (a := (B 27)) rfl (Or.inl hVm180.y27) (sp_in e1 hVm180.l27 (by omega) (by decide)) dX12_comes_194 ?_
        rw [show (m180.aI (B 27) (nI e1).toNatClampNeg) = (m180.aI (B 27) e1) from (congrArg _ (nI_clamp (n := e1) (by omega)))]
        refine sp_iastore X (pc := 195) (a := (B 16)) rfl hVm180.y16 (sp_in b hVm180.l16 (by omega) (by decide))  dX12_comes_195 ?_
        rw [show (nI b).toNatClampNeg = b from (nI_clamp (n := b) (by omega))]
        obtain ⟨m195, hm195⟩ : ∃ xm, xm = (m180.sI (B 16) b (m180.aI (B 27) e1)) := ⟨_, rfl⟩
        rw [← hm195]
        have hVm195 : sp_V B m0 m195 D R l0 l1 d (n1 + 1) b p t e n1 w1 := by
          rw [hm195]
          exact hVm180.sI 16 b _ (by decide) (by decide) (Nat.zero_le _)
        have rkm195 : sp_rk B [4, 6, 7, 8, 9, 10, 11, 12, 16, 34, 36, 37] m m195 := by
          rw [hm195]
          exact rkm180.sI hVm180.r 16 _ _ (by decide) (by decide)
        have k195 : m195.aI (B 4) n1 = kd := by
          rw [hm195]
          rw [sp_sI_aI, if_neg (fun z => hVm1.ne 4 16 (by decide) (by decide) (by decide) z.1)]; exact k180
        clear hm195
        refine sp_aload_n X (pc := 196) (r := some (B 0)) dX12_comes_196 rfl rfl ?_
        refine sp_dup X (pc := 197) dX12_comes_197 (sp_cat_rf _) ?_
        refine sp_getfield X (pc := 198) (c := 13) (i := 14) (t := 0) (a := (B 0)) (v := .int (nI b)) rfl hVm195.r.o (by decide) rfl (congrArg Value.int hVm195.cb) fl_Mo_112 dX12_comes_198 ?_
        refine sp_iconst X (pc := 201) (v := 1) dX12_comes_201 (by decide) ?_
        refine sp_iadd X (pc := 202) dX12_comes_202 ?_
        rw [show ((nI b) + 1) = (nI (b + 1)) from (nI_add b 1)]
        refine sp_putI X (pc := 203) (c := 13) (i := 14) (q := 846) (a := (B 0)) rfl hVm195.r.o (by decide) rfl rfl (Or.inl rfl) ⟨rfl, rfl⟩ fl_Mo_112 dX12_comes_203 ?_
        obtain ⟨m203, hm203⟩ : ∃ xm, xm = (m195.pI 846 (B 0) (nI (b + 1))) := ⟨_, rfl⟩
        rw [← hm203]
        have hVm203 : sp_V B m0 m203 D R l0 l1 d (n1 + 1) (b + 1) p t e n1 w1 := by
          rw [hm203]
          exact hVm195.pb (b + 1) (by omega)
        have rkm203 : sp_rk B [4, 6, 7, 8, 9, 10, 11, 12, 16, 34, 36, 37] m m203 := by
          rw [hm203]
          exact rkm195
        have k203 : m203.aI (B 4) n1 = kd := by
          rw [hm203]
          exact k195
        clear hm203
        refine sp_aload_n X (pc := 206) (r := some (B 0)) dX12_comes_206 rfl rfl ?_
        refine sp_dup X (pc := 207) dX12_comes_207 (sp_cat_rf _) ?_
        refine sp_getfield X (pc := 208) (c := 13) (i := 32) (t := 1) (a := (B 0)) (v := .long (m203.fL 864 (B 0))) rfl hVm203.r.o (by decide) rfl rfl fl_Mo_220 dX12_comes_208 ?_
        refine sp_aload_n X (pc := 211) (r := some (B 0)) dX12_comes_211 rfl rfl ?_
        refine sp_getfield X (pc := 212) (c := 13) (i := 28) (t := 2) (a := (B 0)) (v := va_rf (some (B 28))) rfl hVm203.r.o (by decide) rfl (congrArg va_rf hVm203.f28) fl_Mo_72 dX12_comes_212 ?_
        refine sp_iload_n X (pc := 215) (x := nI e1) dX12_comes_215 rfl rfl ?_
        refine sp_laload X (pc := 216) (a := (B 28)) rfl hVm203.y28 (sp_in e1 hVm203.l28 (by omega) (by decide)) dX12_comes_216 ?_
        rw [show (m203.aL (B 28) (nI e1).toNatClampNeg) = (m203.aL (B 28) e1) from (congrArg _ (nI_clamp (n := e1) (by omega)))]
        refine sp_ladd X (pc := 217) dX12_comes_217 ?_
        refine sp_putL X (pc := 218) (c := 13) (i := 32) (q := 864) (a := (B 0)) rfl hVm203.r.o (by decide) rfl rfl (Or.inl rfl)  fl_Mo_220 dX12_comes_218 ?_
        obtain ⟨m218, hm218⟩ : ∃ xm, xm = (m203.pL 864 (B 0) ((m203.fL 864 (B 0)) + (m203.aL (B 28) e1))) := ⟨_, rfl⟩
        rw [← hm218]
        have hVm218 : sp_V B m0 m218 D R l0 l1 d (n1 + 1) (b + 1) p t e n1 w1 := by
          rw [hm218]
          exact hVm203.pL (k := 864) _ (by decide)
        have rkm218 : sp_rk B [4, 6, 7, 8, 9, 10, 11, 12, 16, 34, 36, 37] m m218 := by
          rw [hm218]
          exact rkm203
        have k218 : m218.aI (B 4) n1 = kd := by
          rw [hm218]
          exact k203
        clear hm218
        refine sp_goto X (pc := 221) (tgt := 264) dX12_comes_221 (by decide) ?_
        refine sp_iload X (pc := 264) (x := nI n1) dX12_comes_264 rfl ?_
        refine sp_ireturn X (pc := 266) dX12_comes_266 rfl ⟨_, rfl, ?_⟩
        first
          | exact ⟨_, _, _, hVm143.tL (fun j q1 q2 q3 => by
                obtain rfl : j = n1 := by omega
                rw [k143] at q3
                have := hkd q3
                rw [this] at hb130
                exact absurd hb130 (by decide)), by omega, rkm143⟩
          | exact ⟨_, _, _, hVm218.tL (fun j q1 q2 q3 => by
                obtain rfl : j = n1 := by omega
                rw [k218] at q3
                have := hkd q3
                rw [this] at hb152
                exact absurd hb152 (by decide)), by omega, rkm218⟩
          | exact ⟨_, _, _, hVm251.tL (fun j q1 q2 _ => ⟨g2, by
              obtain rfl : j = n1 := by omega
              exact c9b, hg2t⟩), by omega, rkm251⟩
          | exact ⟨_, _, _, hVm263.tL (fun j q1 q2 q3 => by
              obtain rfl : j = n1 := by omega
              rw [k263] at q3
              exact absurd (hkd q3) hb227), by omega, rkm263⟩
    · refine sp_aload_n X (pc := 133) (r := some (B 0)) dX12_comes_133 rfl rfl ?_
      refine sp_iload X (pc := 134) (x := nI n1) dX12_comes_134 rfl ?_
      refine sp_aload_n X (pc := 136) (r := some (B 0)) dX12_comes_136 rfl rfl ?_
      refine sp_getfield X (pc := 137) (c := 13) (i := 27) (t := 2) (a := (B 0)) (v := va_rf (some (B 27))) rfl hVm1.r.o (by decide) rfl (congrArg va_rf hVm1.f27) fl_Mo_69 dX12_comes_137 ?_
      refine sp_iload_n X (pc := 140) (x := nI e1) dX12_comes_140 rfl rfl ?_
      refine sp_iaload X (pc := 141) (a := (B 27)) rfl (Or.inl hVm1.y27) (sp_in e1 hVm1.l27 (by omega) (by decide)) dX12_comes_141 ?_
      rw [show (m1.aI (B 27) (nI e1).toNatClampNeg) = (m1.aI (B 27) e1) from (congrArg _ (nI_clamp (n := e1) (by omega)))]
      refine sp_iconst X (pc := 142) (v := 1) dX12_comes_142 (by decide) ?_
      refine sp_callV X (pc := 143) (mc := 0) (ms := 0) (b := (B 0)) (c := 13) (r := some (B 0)) (As := [.int (nI n1), .int (m1.aI (B 27) e1), .int 1]) (rest := []) (c_Mo_note l G _ hVm1 (j := n1) (by omega)) ok_Mo_note rfl hVm1.r.o (by decide) rfl lk_Mo_206 rfl rfl (Nat.zero_le _) (Nat.le_of_ble_eq_true rfl) (Nat.le_of_ble_eq_true rfl) (Nat.zero_le _) (Nat.zero_le _) dX12_comes_143 (sp_kV fun m143 hp143 => ?_)
      obtain ⟨hVm143, -, hn143⟩ := hp143
      have k143 : m143.aI (B 4) n1 = kd := (congrFun (hn143 _ (hVm1.ne 4 12 (by decide) (by decide) (by decide))) _).trans h4k
      have rkm143 : sp_rk B [4, 6, 7, 8, 9, 10, 11, 12, 16, 34, 36, 37] m m143 := rkm1.trans ((sp_rk.of1 (k := 12) hn143 hVm1.r (by decide)).mono (by decide))
      refine sp_goto X (pc := 146) (tgt := 264) dX12_comes_146 (by decide) ?_
      refine sp_iload X (pc := 264) (x := nI n1) dX12_comes_264 rfl ?_
      refine sp_ireturn X (pc := 266) dX12_comes_266 rfl ⟨_, rfl, ?_⟩
      first
        | exact ⟨_, _, _, hVm143.tL (fun j q1 q2 q3 => by
              obtain rfl : j = n1 := by omega
              rw [k143] at q3
              have := hkd q3
              rw [this] at hb130
              exact absurd hb130 (by decide)), by omega, rkm143⟩
        | exact ⟨_, _, _, hVm218.tL (fun j q1 q2 q3 => by
              obtain rfl : j = n1 := by omega
              rw [k218] at q3
              have := hkd q3
              rw [this] at hb152
              exact absurd hb152 (by decide)), by omega, rkm218⟩
        | exact ⟨_, _, _, hVm251.tL (fun j q1 q2 _ => ⟨g2, by
            obtain rfl : j = n1 := by omega
            exact c9b, hg2t⟩), by omega, rkm251⟩
        | exact ⟨_, _, _, hVm263.tL (fun j q1 q2 q3 => by
            obtain rfl : j = n1 := by omega
            rw [k263] at q3
            exact absurd (hkd q3) hb227), by omega, rkm263⟩
  have cut114 : ∀ (kd kk : Int32) (n1 w1 : Nat) (m1 : sp_M), sp_rk B [4, 6, 7, 8, 9, 10, 11, 12, 16, 34, 36, 37] m m1 → sp_V B m0 m1 D R l0 l1 d (n1 + 1) b p t e n1 w1 → m1.aI (B 4) n1 = kd → (kd = 2 → kk = 2) → (kk = 2 → ∃ q, m1.aI (B 27) e1 = nI q ∧ q < t) → n ≤ n1 → n1 + 1 ≤ 200 → b ≤ n1 → w 0 0 m1 114 [(0, false, va_rf (some (B 0))), (1, false, .int (nI e1)), (4, false, .int th), (5, false, .int dd), (6, false, .int bo), (10, false, .int kk), (11, false, .int (nI n1))] [] := by
    intro kd kk n1 w1 m1 rkm1 hVm1 h4k hkd hk27 hnn hn200 hbn
    refine sp_iload X (pc := 114) (x := th) dX12_comes_114 rfl ?_
    refine sp_iconst X (pc := 116) (v := (-1)) dX12_comes_116 (by decide) ?_
    refine sp_icmp_eq X (pc := 117) (tgt := 128) dX12_comes_117 (by decide) (fun hb117 => ?_) (fun hb117 => ?_)
    · refine sp_pick X [0, 1, 3, 4, 5, 6] (lv' := [(0, false, va_rf (some (B 0))), (1, false, .int (nI e1)), (5, false, .int dd), (6, false, .int bo), (10, false, .int kk), (11, false, .int (nI n1))]) rfl ?_
      first | exact cut128 kd kk n1 _ _ rkm1 hVm1 h4k hkd hk27 hnn hn200 hbn | exact cut128 kd kk n1 _ _ rkm1 hVm127 k127 hkd k27d hnn hn200 hbn
    · have hj0 : ∃ j, th = nI j ∧ j < n := by
        rcases hth with z | z
        · exact absurd z hb117
        · exact z
      obtain ⟨j, hj, hjn⟩ := hj0
      subst hj
      refine sp_aload_n X (pc := 120) (r := some (B 0)) dX12_comes_120 rfl rfl ?_
      refine sp_getfield X (pc := 121) (c := 13) (i := 7) (t := 2) (a := (B 0)) (v := va_rf (some (B 7))) rfl hVm1.r.o (by decide) rfl (congrArg va_rf hVm1.f7) fl_Mo_23 dX12_comes_121 ?_
      refine sp_iload X (pc := 124) (x := (nI j)) dX12_comes_124 rfl ?_
      refine sp_iconst X (pc := 126) (v := 1) dX12_comes_126 (by decide) ?_
      refine sp_bastore X (pc := 127) (a := (B 7)) rfl hVm1.y7 (sp_in j hVm1.l7 (by omega) (by decide)) rfl dX12_comes_127 ?_
      rw [show (nI j).toNatClampNeg = j from (nI_clamp (n := j) (by omega))]
      obtain ⟨m127, hm127⟩ : ∃ xm, xm = (m1.sI (B 7) j 1) := ⟨_, rfl⟩
      rw [← hm127]
      have hVm127 : sp_V B m0 m127 D R l0 l1 d (n1 + 1) b p t e n1 w1 := by
        rw [hm127]
        exact hVm1.sI 7 j _ (by decide) (by decide) (Nat.zero_le _)
      have rkm127 : sp_rk B [4, 6, 7, 8, 9, 10, 11, 12, 16, 34, 36, 37] m m127 := by
        rw [hm127]
        exact rkm1.sI hVm1.r 7 _ _ (by decide) (by decide)
      have k127 : m127.aI (B 4) n1 = kd := by
        rw [hm127]
        rw [sp_sI_aI, if_neg (fun z => hVm1.ne 4 7 (by decide) (by decide) (by decide) z.1)]; exact h4k
      have k27d : kk = 2 → ∃ q, m127.aI (B 27) e1 = nI q ∧ q < t := by
        rw [hm127]
        rw [show (m1.sI (B 7) j 1).aI (B 27) = m1.aI (B 27) from by
          funext i
          rw [sp_sI_aI, if_neg (fun z => hVm1.ne 27 7 (by decide) (by decide) (by decide) z.1)]]
        exact hk27
      clear hm127
      refine sp_pick X [0, 1, 3, 4, 5, 6] (lv' := [(0, false, va_rf (some (B 0))), (1, false, .int (nI e1)), (5, false, .int dd), (6, false, .int bo), (10, false, .int kk), (11, false, .int (nI n1))]) rfl ?_
      first | exact cut128 kd kk n1 _ _ rkm127 hVm1 h4k hkd hk27 hnn hn200 hbn | exact cut128 kd kk n1 _ _ rkm127 hVm127 k127 hkd k27d hnn hn200 hbn
  refine sp_aload_n X (pc := 0) (r := some (B 0)) dX12_comes_0 rfl rfl ?_
  refine sp_getfield X (pc := 1) (c := 13) (i := 26) (t := 2) (a := (B 0)) (v := va_rf (some (B 26))) rfl hVm.r.o (by decide) rfl (congrArg va_rf hVm.f26) fl_Mo_66 dX12_comes_1 ?_
  refine sp_iload_n X (pc := 4) (x := nI e1) dX12_comes_4 rfl rfl ?_
  refine sp_iaload X (pc := 5) (a := (B 26)) rfl (Or.inl hVm.y26) (sp_in e1 hVm.l26 (by omega) (by decide)) dX12_comes_5 ?_
  rw [show (m.aI (B 26) (nI e1).toNatClampNeg) = (m.aI (B 26) e1) from (congrArg _ (nI_clamp (n := e1) (by omega)))]
  rw [show (m.aI (B 26) e1) = (nI g) from hg]
  refine sp_istore X (pc := 6) (lv' := [(7, false, .int (nI g)), (0, false, va_rf (some (B 0))), (1, false, .int (nI e1)), (2, false, .int (nI f)), (3, false, .int (nI lk)), (4, false, .int th), (5, false, .int dd), (6, false, .int bo)]) dX12_comes_6  (by decide) rfl ?_
  refine sp_aload_n X (pc := 8) (r := some (B 0)) dX12_comes_8 rfl rfl ?_
  refine sp_getfield X (pc := 9) (c := 13) (i := 18) (t := 2) (a := (B 0)) (v := va_rf (some (B 18))) rfl hVm.r.o (by decide) rfl (congrArg va_rf hVm.f18) fl_Mo_48 dX12_comes_9 ?_
  refine sp_iload X (pc := 12) (x := (nI g)) dX12_comes_12 rfl ?_
  refine sp_iaload X (pc := 14) (a := (B 18)) rfl (Or.inl hVm.y18) (sp_in g hVm.l18 (by omega) (by decide)) dX12_comes_14 ?_
  rw [show (m.aI (B 18) (nI g).toNatClampNeg) = (m.aI (B 18) g) from (congrArg _ (nI_clamp (n := g) (by omega)))]
  rw [show (m.aI (B 18) g) = (nI q) from hq]
  refine sp_iconst X (pc := 15) (v := 1) dX12_comes_15 (by decide) ?_
  refine sp_isub X (pc := 16) dX12_comes_16 ?_
  rw [show ((nI q) - 1) = (nI (q - 1)) from sp_sub (c := 1) (by omega)]
  refine sp_istore X (pc := 17) (lv' := [(8, false, .int (nI (q - 1))), (7, false, .int (nI g)), (0, false, va_rf (some (B 0))), (1, false, .int (nI e1)), (2, false, .int (nI f)), (3, false, .int (nI lk)), (4, false, .int th), (5, false, .int dd), (6, false, .int bo)]) dX12_comes_17  (by decide) rfl ?_
  refine sp_iload_n X (pc := 19) (x := nI f) dX12_comes_19 rfl rfl ?_
  refine sp_istore X (pc := 20) (lv' := [(9, false, .int (nI f)), (8, false, .int (nI (q - 1))), (7, false, .int (nI g)), (0, false, va_rf (some (B 0))), (1, false, .int (nI e1)), (2, false, .int (nI f)), (3, false, .int (nI lk)), (4, false, .int th), (5, false, .int dd), (6, false, .int bo)]) dX12_comes_20  (by decide) rfl ?_
  refine sp_iload X (pc := 22) (x := (nI (q - 1))) dX12_comes_22 rfl ?_
  refine sp_iload_n X (pc := 24) (x := nI lk) dX12_comes_24 rfl rfl ?_
  refine sp_isub X (pc := 25) dX12_comes_25 ?_
  rw [show ((nI (q - 1)) - (nI lk)) = (nI (q - 1 - lk)) from sp_sub (by omega)]
  refine sp_istore X (pc := 26) (lv' := [(10, false, .int (nI (q - 1 - lk))), (9, false, .int (nI f)), (8, false, .int (nI (q - 1))), (7, false, .int (nI g)), (0, false, va_rf (some (B 0))), (1, false, .int (nI e1)), (2, false, .int (nI f)), (3, false, .int (nI lk)), (4, false, .int th), (5, false, .int dd), (6, false, .int bo)]) dX12_comes_26  (by decide) rfl ?_
  have loop28 : ∀ (dz : Nat) (i f1 n1 w1 : Nat) (m1 : sp_M), sp_rk B [4, 6, 7, 8, 9, 10, 11, 12, 16, 34, 36, 37] m m1 → i ≤ lk → n1 = n + i → f1 < n1 → sp_V B m0 m1 D R l0 l1 d n1 b p t e n1 w1 → sp_rk B [4, 8, 9, 10, 11, 12, 34] m m1 → lk - i = dz → w 0 0 m1 28 [(0, false, va_rf (some (B 0))), (1, false, .int (nI e1)), (3, false, .int (nI lk)), (4, false, .int th), (5, false, .int dd), (6, false, .int bo), (7, false, .int (nI g)), (8, false, .int (nI (q - 1))), (9, false, .int (nI f1)), (10, false, .int (nI (q - 1 - lk + i)))] [] := by
    intro dz
    induction dz using Nat.strongRecOn with
    | ind dz ih =>
      intro i f1 n1 w1 m1 rkm1 hi hn1 hf1 hVm1 hr1 hdz
      refine sp_iload X (pc := 28) (x := nI (q - 1 - lk + i)) dX12_comes_28 rfl ?_
      refine sp_iload X (pc := 30) (x := nI (q - 1)) dX12_comes_30 rfl ?_
      refine sp_icmp_ge X (pc := 32) (tgt := 58) dX12_comes_32 (by decide) (fun hb32 => ?_) (fun hb32 => ?_)
      · have hil : i = lk := by
          have := sp_nge hb32 (by omega) (by omega)
          omega
        refine sp_aload_n X (pc := 58) (r := some (B 0)) dX12_comes_58 rfl rfl ?_
        refine sp_iload X (pc := 59) (x := nI g) dX12_comes_59 rfl ?_
        refine sp_iload X (pc := 61) (x := nI (q - 1)) dX12_comes_61 rfl ?_
        refine sp_callV X (pc := 63) (mc := 0) (ms := 0) (b := (B 0)) (c := 13) (r := some (B 0)) (As := [.int (nI g), .int (nI (q - 1))]) (rest := []) (c_Mo_partWord l G _ hVm1 hgp (by omega)) ok_Mo_partWord rfl hVm1.r.o (by decide) rfl lk_Mo_189 rfl rfl (Nat.zero_le _) (Nat.le_of_ble_eq_true rfl) (Nat.le_of_ble_eq_true rfl) (Nat.zero_le _) (Nat.zero_le _) dX12_comes_63 (sp_kV fun m63 hp63 => ?_)
        obtain ⟨w63, hw63, hVm63, hwd63⟩ := hp63
        have hr63 := hr1.trans ((sp_rk.wd hwd63 hVm1.r).mono (by decide : ∀ k, k ∈ [34] → k ∈ [4, 8, 9, 10, 11, 12, 34]))
        obtain ⟨kk, hkk⟩ : ∃ kk, m63.aI (B 25) e1 = kk := ⟨_, rfl⟩
        have hk27a : kk = 2 → ∃ q, m63.aI (B 27) e1 = nI q ∧ q < t := fun z => hVm63.e2 e1 he1 (hkk.trans z)
        have rkm63 : sp_rk B [4, 6, 7, 8, 9, 10, 11, 12, 16, 34, 36, 37] m m63 := rkm1.trans ((sp_rk.wd hwd63 hVm1.r).mono (by decide))
        refine sp_aload_n X (pc := 66) (r := some (B 0)) dX12_comes_66 rfl rfl ?_
        refine sp_getfield X (pc := 67) (c := 13) (i := 25) (t := 2) (a := (B 0)) (v := va_rf (some (B 25))) rfl hVm63.r.o (by decide) rfl (congrArg va_rf hVm63.f25) fl_Mo_63 dX12_comes_67 ?_
        refine sp_iload_n X (pc := 70) (x := nI e1) dX12_comes_70 rfl rfl ?_
        refine sp_iaload X (pc := 71) (a := (B 25)) rfl (Or.inl hVm63.y25) (sp_in e1 hVm63.l25 (by omega) (by decide)) dX12_comes_71 ?_
        rw [show (m63.aI (B 25) (nI e1).toNatClampNeg) = (m63.aI (B 25) e1) from (congrArg _ (nI_clamp (n := e1) (by omega)))]
        rw [show (m63.aI (B 25) e1) = kk from hkk]
        refine sp_istore X (pc := 72) (lv' := [(10, false, .int kk), (0, false, va_rf (some (B 0))), (1, false, .int (nI e1)), (3, false, .int (nI lk)), (4, false, .int th), (5, false, .int dd), (6, false, .int bo), (7, false, .int (nI g)), (8, false, .int (nI (q - 1))), (9, false, .int (nI f1))]) dX12_comes_72  (by decide) rfl ?_
        refine sp_aload_n X (pc := 74) (r := some (B 0)) dX12_comes_74 rfl rfl ?_
        refine sp_iload X (pc := 75) (x := kk) dX12_comes_75 rfl ?_
        refine sp_if_ne X (pc := 77) (tgt := 84) dX12_comes_77 (by decide) (fun hb77 => ?_) (fun hb77 => ?_)
        · refine sp_iload X (pc := 84) (x := kk) dX12_comes_84 rfl ?_
          refine sp_iconst X (pc := 86) (v := 2) dX12_comes_86 (by decide) ?_
          refine sp_icmp_ne X (pc := 87) (tgt := 94) dX12_comes_87 (by decide) (fun hb87 => ?_) (fun hb87 => ?_)
          · refine sp_iconst X (pc := 94) (v := 1) dX12_comes_94 (by decide) ?_
            refine sp_iload X (pc := 95) (x := nI f1) dX12_comes_95 rfl ?_
            refine sp_callV X (pc := 97) (mc := 0) (ms := 0) (b := (B 0)) (c := 13) (r := some (B 0)) (As := [.int 1, .int (nI f1)]) (rest := []) (c_Mo_add l G _ hVm63 (f := f1) (by omega) (Or.inl hf1) hw63) ok_Mo_add rfl hVm63.r.o (by decide) rfl lk_Mo_99 rfl rfl (Nat.zero_le _) (Nat.le_of_ble_eq_true rfl) (Nat.le_of_ble_eq_true rfl) (Nat.zero_le _) (Nat.zero_le _) dX12_comes_97 (sp_kI fun v97 m97 hp97 => ?_)
            obtain ⟨rfl, hVm97, k97, r97⟩ := hp97
            have h27 : m97.aI (B 27) = m63.aI (B 27) := r97 27 (by decide) (by decide)
            have hk27b : kk = 2 → ∃ q, m97.aI (B 27) e1 = nI q ∧ q < t := by rw [h27]; exact hk27a
            have rkm97 : sp_rk B [4, 6, 7, 8, 9, 10, 11, 12, 16, 34, 36, 37] m m97 := rkm63.trans ((r97).mono (by decide))
            refine sp_istore X (pc := 100) (lv' := [(11, false, .int (nI n1)), (10, false, .int kk), (0, false, va_rf (some (B 0))), (1, false, .int (nI e1)), (3, false, .int (nI lk)), (4, false, .int th), (5, false, .int dd), (6, false, .int bo), (7, false, .int (nI g)), (8, false, .int (nI (q - 1))), (9, false, .int (nI f1))]) dX12_comes_100  (by decide) rfl ?_
            refine sp_aload_n X (pc := 102) (r := some (B 0)) dX12_comes_102 rfl rfl ?_
            refine sp_dup X (pc := 103) dX12_comes_103 (sp_cat_rf _) ?_
            refine sp_getfield X (pc := 104) (c := 13) (i := 31) (t := 0) (a := (B 0)) (v := .int (m97.fI 863 (B 0))) rfl hVm97.r.o (by decide) rfl rfl fl_Mo_217 dX12_comes_104 ?_
            refine sp_iload_n X (pc := 107) (x := nI lk) dX12_comes_107 rfl rfl ?_
            refine sp_iconst X (pc := 108) (v := 1) dX12_comes_108 (by decide) ?_
            refine sp_iadd X (pc := 109) dX12_comes_109 ?_
            rw [show ((nI lk) + 1) = (nI (lk + 1)) from (nI_add lk 1)]
            refine sp_iadd X (pc := 110) dX12_comes_110 ?_
            refine sp_putI X (pc := 111) (c := 13) (i := 31) (q := 863) (a := (B 0)) rfl hVm97.r.o (by decide) rfl rfl (Or.inl rfl) ⟨rfl, rfl⟩ fl_Mo_217 dX12_comes_111 ?_
            obtain ⟨m111, hm111⟩ : ∃ xm, xm = (m97.pI 863 (B 0) ((m97.fI 863 (B 0)) + (nI (lk + 1)))) := ⟨_, rfl⟩
            rw [← hm111]
            have hVm111 : sp_V B m0 m111 D R l0 l1 d (n1 + 1) b p t e n1 w63 := by
              rw [hm111]
              exact hVm97.pI (k := 863) _ (by decide)
            have rkm111 : sp_rk B [4, 6, 7, 8, 9, 10, 11, 12, 16, 34, 36, 37] m m111 := by
              rw [hm111]
              exact rkm97
            have k111 : m111.aI (B 4) n1 = m97.aI (B 4) n1 := by
              rw [hm111]
              rfl
            have k27c : kk = 2 → ∃ q, m111.aI (B 27) e1 = nI q ∧ q < t := by
              rw [hm111]
              exact hk27b
            clear hm111
            refine sp_pick X [2, 3, 5, 6, 7, 1, 0] (lv' := [(0, false, va_rf (some (B 0))), (1, false, .int (nI e1)), (4, false, .int th), (5, false, .int dd), (6, false, .int bo), (10, false, .int kk), (11, false, .int (nI n1))]) rfl ?_
            first
              | exact cut114 0 kk n1 _ _ rkm111 hVm111 (k111.trans k97) (fun z => absurd z (by decide)) k27c (by omega) (by omega) (by omega)
              | exact cut114 1 kk n1 _ _ rkm111 hVm111 (k111.trans k97) (fun z => absurd z (by decide)) k27c (by omega) (by omega) (by omega)
              | exact cut114 2 kk n1 _ _ rkm111 hVm111 (k111.trans k97) (fun _ => hb87) k27c (by omega) (by omega) (by omega)
          · refine sp_iconst X (pc := 90) (v := 2) dX12_comes_90 (by decide) ?_
            refine sp_goto X (pc := 91) (tgt := 95) dX12_comes_91 (by decide) ?_
            refine sp_iload X (pc := 95) (x := nI f1) dX12_comes_95 rfl ?_
            refine sp_callV X (pc := 97) (mc := 0) (ms := 0) (b := (B 0)) (c := 13) (r := some (B 0)) (As := [.int 2, .int (nI f1)]) (rest := []) (c_Mo_add l G _ hVm63 (f := f1) (by omega) (Or.inl hf1) hw63) ok_Mo_add rfl hVm63.r.o (by decide) rfl lk_Mo_99 rfl rfl (Nat.zero_le _) (Nat.le_of_ble_eq_true rfl) (Nat.le_of_ble_eq_true rfl) (Nat.zero_le _) (Nat.zero_le _) dX12_comes_97 (sp_kI fun v97 m97 hp97 => ?_)
            obtain ⟨rfl, hVm97, k97, r97⟩ := hp97
            have h27 : m97.aI (B 27) = m63.aI (B 27) := r97 27 (by decide) (by decide)
            have hk27b : kk = 2 → ∃ q, m97.aI (B 27) e1 = nI q ∧ q < t := by rw [h27]; exact hk27a
            have rkm97 : sp_rk B [4, 6, 7, 8, 9, 10, 11, 12, 16, 34, 36, 37] m m97 := rkm63.trans ((r97).mono (by decide))
            refine sp_istore X (pc := 100) (lv' := [(11, false, .int (nI n1)), (10, false, .int kk), (0, false, va_rf (some (B 0))), (1, false, .int (nI e1)), (3, false, .int (nI lk)), (4, false, .int th), (5, false, .int dd), (6, false, .int bo), (7, false, .int (nI g)), (8, false, .int (nI (q - 1))), (9, false, .int (nI f1))]) dX12_comes_100  (by decide) rfl ?_
            refine sp_aload_n X (pc := 102) (r := some (B 0)) dX12_comes_102 rfl rfl ?_
            refine sp_dup X (pc := 103) dX12_comes_103 (sp_cat_rf _) ?_
            refine sp_getfield X (pc := 104) (c := 13) (i := 31) (t := 0) (a := (B 0)) (v := .int (m97.fI 863 (B 0))) rfl hVm97.r.o (by decide) rfl rfl fl_Mo_217 dX12_comes_104 ?_
            refine sp_iload_n X (pc := 107) (x := nI lk) dX12_comes_107 rfl rfl ?_
            refine sp_iconst X (pc := 108) (v := 1) dX12_comes_108 (by decide) ?_
            refine sp_iadd X (pc := 109) dX12_comes_109 ?_
            rw [show ((nI lk) + 1) = (nI (lk + 1)) from (nI_add lk 1)]
            refine sp_iadd X (pc := 110) dX12_comes_110 ?_
            refine sp_putI X (pc := 111) (c := 13) (i := 31) (q := 863) (a := (B 0)) rfl hVm97.r.o (by decide) rfl rfl (Or.inl rfl) ⟨rfl, rfl⟩ fl_Mo_217 dX12_comes_111 ?_
            obtain ⟨m111, hm111⟩ : ∃ xm, xm = (m97.pI 863 (B 0) ((m97.fI 863 (B 0)) + (nI (lk + 1)))) := ⟨_, rfl⟩
            rw [← hm111]
            have hVm111 : sp_V B m0 m111 D R l0 l1 d (n1 + 1) b p t e n1 w63 := by
              rw [hm111]
              exact hVm97.pI (k := 863) _ (by decide)
            have rkm111 : sp_rk B [4, 6, 7, 8, 9, 10, 11, 12, 16, 34, 36, 37] m m111 := by
              rw [hm111]
              exact rkm97
            have k111 : m111.aI (B 4) n1 = m97.aI (B 4) n1 := by
              rw [hm111]
              rfl
            have k27c : kk = 2 → ∃ q, m111.aI (B 27) e1 = nI q ∧ q < t := by
              rw [hm111]
              exact hk27b
            clear hm111
            refine sp_pick X [2, 3, 5, 6, 7, 1, 0] (lv' := [(0, false, va_rf (some (B 0))), (1, false, .int (nI e1)), (4, false, .int th), (5, false, .int dd), (6, false, .int bo), (10, false, .int kk), (11, false, .int (nI n1))]) rfl ?_
            first
              | exact cut114 0 kk n1 _ _ rkm111 hVm111 (k111.trans k97) (fun z => absurd z (by decide)) k27c (by omega) (by omega) (by omega)
              | exact cut114 1 kk n1 _ _ rkm111 hVm111 (k111.trans k97) (fun z => absurd z (by decide)) k27c (by omega) (by omega) (by omega)
              | exact cut114 2 kk n1 _ _ rkm111 hVm111 (k111.trans k97) (fun _ => hb87) k27c (by omega) (by omega) (by omega)
        · refine sp_iconst X (pc := 80) (v := 0) dX12_comes_80 (by decide) ?_
          refine sp_goto X (pc := 81) (tgt := 95) dX12_comes_81 (by decide) ?_
          refine sp_iload X (pc := 95) (x := nI f1) dX12_comes_95 rfl ?_
          refine sp_callV X (pc := 97) (mc := 0) (ms := 0) (b := (B 0)) (c := 13) (r := some (B 0)) (As := [.int 0, .int (nI f1)]) (rest := []) (c_Mo_add l G _ hVm63 (f := f1) (by omega) (Or.inl hf1) hw63) ok_Mo_add rfl hVm63.r.o (by decide) rfl lk_Mo_99 rfl rfl (Nat.zero_le _) (Nat.le_of_ble_eq_true rfl) (Nat.le_of_ble_eq_true rfl) (Nat.zero_le _) (Nat.zero_le _) dX12_comes_97 (sp_kI fun v97 m97 hp97 => ?_)
          obtain ⟨rfl, hVm97, k97, r97⟩ := hp97
          have h27 : m97.aI (B 27) = m63.aI (B 27) := r97 27 (by decide) (by decide)
          have hk27b : kk = 2 → ∃ q, m97.aI (B 27) e1 = nI q ∧ q < t := by rw [h27]; exact hk27a
          have rkm97 : sp_rk B [4, 6, 7, 8, 9, 10, 11, 12, 16, 34, 36, 37] m m97 := rkm63.trans ((r97).mono (by decide))
          refine sp_istore X (pc := 100) (lv' := [(11, false, .int (nI n1)), (10, false, .int kk), (0, false, va_rf (some (B 0))), (1, false, .int (nI e1)), (3, false, .int (nI lk)), (4, false, .int th), (5, false, .int dd), (6, false, .int bo), (7, false, .int (nI g)), (8, false, .int (nI (q - 1))), (9, false, .int (nI f1))]) dX12_comes_100  (by decide) rfl ?_
          refine sp_aload_n X (pc := 102) (r := some (B 0)) dX12_comes_102 rfl rfl ?_
          refine sp_dup X (pc := 103) dX12_comes_103 (sp_cat_rf _) ?_
          refine sp_getfield X (pc := 104) (c := 13) (i := 31) (t := 0) (a := (B 0)) (v := .int (m97.fI 863 (B 0))) rfl hVm97.r.o (by decide) rfl rfl fl_Mo_217 dX12_comes_104 ?_
          refine sp_iload_n X (pc := 107) (x := nI lk) dX12_comes_107 rfl rfl ?_
          refine sp_iconst X (pc := 108) (v := 1) dX12_comes_108 (by decide) ?_
          refine sp_iadd X (pc := 109) dX12_comes_109 ?_
          rw [show ((nI lk) + 1) = (nI (lk + 1)) from (nI_add lk 1)]
          refine sp_iadd X (pc := 110) dX12_comes_110 ?_
          refine sp_putI X (pc := 111) (c := 13) (i := 31) (q := 863) (a := (B 0)) rfl hVm97.r.o (by decide) rfl rfl (Or.inl rfl) ⟨rfl, rfl⟩ fl_Mo_217 dX12_comes_111 ?_
          obtain ⟨m111, hm111⟩ : ∃ xm, xm = (m97.pI 863 (B 0) ((m97.fI 863 (B 0)) + (nI (lk + 1)))) := ⟨_, rfl⟩
          rw [← hm111]
          have hVm111 : sp_V B m0 m111 D R l0 l1 d (n1 + 1) b p t e n1 w63 := by
            rw [hm111]
            exact hVm97.pI (k := 863) _ (by decide)
          have rkm111 : sp_rk B [4, 6, 7, 8, 9, 10, 11, 12, 16, 34, 36, 37] m m111 := by
            rw [hm111]
            exact rkm97
          have k111 : m111.aI (B 4) n1 = m97.aI (B 4) n1 := by
            rw [hm111]
            rfl
          have k27c : kk = 2 → ∃ q, m111.aI (B 27) e1 = nI q ∧ q < t := by
            rw [hm111]
            exact hk27b
          clear hm111
          refine sp_pick X [2, 3, 5, 6, 7, 1, 0] (lv' := [(0, false, va_rf (some (B 0))), (1, false, .int (nI e1)), (4, false, .int th), (5, false, .int dd), (6, false, .int bo), (10, false, .int kk), (11, false, .int (nI n1))]) rfl ?_
          first
            | exact cut114 0 kk n1 _ _ rkm111 hVm111 (k111.trans k97) (fun z => absurd z (by decide)) k27c (by omega) (by omega) (by omega)
            | exact cut114 1 kk n1 _ _ rkm111 hVm111 (k111.trans k97) (fun z => absurd z (by decide)) k27c (by omega) (by omega) (by omega)
            | exact cut114 2 kk n1 _ _ rkm111 hVm111 (k111.trans k97) (fun _ => hb87) k27c (by omega) (by omega) (by omega)
      · have hil : i < lk := by
          have := sp_nlt hb32 (by omega)
          omega
        refine sp_aload_n X (pc := 35) (r := some (B 0)) dX12_comes_35 rfl rfl ?_
        refine sp_iload X (pc := 36) (x := nI g) dX12_comes_36 rfl ?_
        refine sp_iload X (pc := 38) (x := nI (q - 1 - lk + i)) dX12_comes_38 rfl ?_
        refine sp_callV X (pc := 40) (mc := 0) (ms := 0) (b := (B 0)) (c := 13) (r := some (B 0)) (As := [.int (nI g), .int (nI (q - 1 - lk + i))]) (rest := []) (c_Mo_partWord l G _ hVm1 hgp (by omega)) ok_Mo_partWord rfl hVm1.r.o (by decide) rfl lk_Mo_189 rfl rfl (Nat.zero_le _) (Nat.le_of_ble_eq_true rfl) (Nat.le_of_ble_eq_true rfl) (Nat.zero_le _) (Nat.zero_le _) dX12_comes_40 (sp_kV fun m40 hp40 => ?_)
        obtain ⟨w40, hw40, hVm40, hwd40⟩ := hp40
        have hr40 := hr1.trans ((sp_rk.wd hwd40 hVm1.r).mono (by decide : ∀ k, k ∈ [34] → k ∈ [4, 8, 9, 10, 11, 12, 34]))
        have rkm40 : sp_rk B [4, 6, 7, 8, 9, 10, 11, 12, 16, 34, 36, 37] m m40 := rkm1.trans ((sp_rk.wd hwd40 hVm1.r).mono (by decide))
        refine sp_aload_n X (pc := 43) (r := some (B 0)) dX12_comes_43 rfl rfl ?_
        refine sp_iconst X (pc := 44) (v := 0) dX12_comes_44 (by decide) ?_
        refine sp_iload X (pc := 45) (x := nI f1) dX12_comes_45 rfl ?_
        refine sp_callV X (pc := 47) (mc := 0) (ms := 0) (b := (B 0)) (c := 13) (r := some (B 0)) (As := [.int 0, .int (nI f1)]) (rest := []) (c_Mo_add l G _ hVm40 (f := f1) (by omega) (Or.inl hf1) hw40) ok_Mo_add rfl hVm40.r.o (by decide) rfl lk_Mo_99 rfl rfl (Nat.zero_le _) (Nat.le_of_ble_eq_true rfl) (Nat.le_of_ble_eq_true rfl) (Nat.zero_le _) (Nat.zero_le _) dX12_comes_47 (sp_kI fun v47 m47 hp47 => ?_)
        obtain ⟨rfl, hV47, k47, r47⟩ := hp47
        have hVm47 : sp_V B m0 m47 D R l0 l1 d (n1 + 1) b p t e (n1 + 1) w40 := hV47.tL (fun j q1 q2 q3 => by
          obtain rfl : j = n1 := by omega
          rw [k47] at q3
          exact absurd q3 (by decide))
        have hr47 := hr40.trans (r47.mono (by decide : ∀ k, k ∈ [4, 8, 9, 10, 11, 12] → k ∈ [4, 8, 9, 10, 11, 12, 34]))
        have rkm47 : sp_rk B [4, 6, 7, 8, 9, 10, 11, 12, 16, 34, 36, 37] m m47 := rkm40.trans ((r47).mono (by decide))
        refine sp_istore X (pc := 50) (lv' := [(9, false, .int (nI n1)), (0, false, va_rf (some (B 0))), (1, false, .int (nI e1)), (3, false, .int (nI lk)), (4, false, .int th), (5, false, .int dd), (6, false, .int bo), (7, false, .int (nI g)), (8, false, .int (nI (q - 1))), (10, false, .int (nI (q - 1 - lk + i)))]) dX12_comes_50  (by decide) rfl ?_
        refine sp_iinc X (pc := 52) (v := (nI ((q - 1 - lk + i) + 1))) (lv' := [(10, false, .int (nI ((q - 1 - lk + i) + 1))), (9, false, .int (nI n1)), (0, false, va_rf (some (B 0))), (1, false, .int (nI e1)), (3, false, .int (nI lk)), (4, false, .int th), (5, false, .int dd), (6, false, .int bo), (7, false, .int (nI g)), (8, false, .int (nI (q - 1)))]) dX12_comes_52 rfl ((sp_i1 (q - 1 - lk + i))) (by decide) rfl ?_
        refine sp_goto X (pc := 55) (tgt := 28) dX12_comes_55 (by decide) ?_
        refine sp_pick X [2, 3, 4, 5, 6, 7, 8, 9, 1, 0] (lv' := [(0, false, va_rf (some (B 0))), (1, false, .int (nI e1)), (3, false, .int (nI lk)), (4, false, .int th), (5, false, .int dd), (6, false, .int bo), (7, false, .int (nI g)), (8, false, .int (nI (q - 1))), (9, false, .int (nI n1)), (10, false, .int (nI ((q - 1 - lk + i) + 1)))]) rfl ?_
        exact ih _ (by omega) (i + 1) n1 (n1 + 1) _ _ rkm47 (by omega) (by omega) (by omega) hVm47 hr47 rfl
  refine sp_pick X [4, 5, 7, 8, 9, 10, 3, 2, 1, 0] (lv' := [(0, false, va_rf (some (B 0))), (1, false, .int (nI e1)), (3, false, .int (nI lk)), (4, false, .int th), (5, false, .int dd), (6, false, .int bo), (7, false, .int (nI g)), (8, false, .int (nI (q - 1))), (9, false, .int (nI f)), (10, false, .int (nI (q - 1 - lk)))]) rfl ?_
  exact loop28 _ 0 f n _ _ rkm (Nat.zero_le _) rfl hf hVm (sp_rk.refl _ _ _) rfl
set_option maxHeartbeats 4000000 in
set_option maxRecDepth 20000 in
theorem c_Mo_takes (l : Launch) (G : sp_G) (m : sp_M) {B : Nat → Nat} {m0 : sp_M} {D : Nat → Int32} {R : Int32} {l0 l1 : Int64} {d n b p t e ws : Nat} (hVm : sp_V B m0 m D R l0 l1 d n b p t e n ws) {e1 : Nat} {rl : Int32} (he1 : e1 < e) (h4 : 4 ≤ n) : sp_C l G M_Mo_takes 0 0 [.ref (B 0), .int (nI e1), .int rl] m (sp_oI fun v m' => ∃ n' b' w', sp_V B m0 m' D R l0 l1 d n' b' p t e n' w' ∧ n ≤ n' ∧ sp_rk B [4, 6, 7, 8, 9, 10, 11, 12, 16, 34, 36, 37] m m') := by
  refine sp_enter (lv0 := [(0, false, va_rf (some (B 0))), (1, false, .int (nI e1)), (2, false, .int rl)]) "SafePathsModel" false rfl (by decide) (fun h => by cases h) (Nat.le_of_ble_eq_true rfl) rfl ?_
  intro w X
  have bd := hVm.hd
  have bn := hVm.hn
  have bb := hVm.hb
  have bp := hVm.hp
  have bt := hVm.ht
  have be := hVm.he
  have bw := hVm.hw
  have bL := hVm.hL
  have rkm : sp_rk B [4, 6, 7, 8, 9, 10, 11, 12, 16, 34, 36, 37] m m := sp_rk.refl _ _ _
  obtain ⟨g0, hg0, hgp0⟩ := hVm.ep e1 he1
  have cut253 : ∀ (f lk g q w2 : Nat) (th kk dd bo : Int32) (m2 : sp_M), sp_rk B [4, 6, 7, 8, 9, 10, 11, 12, 16, 34, 36, 37] m m2 → sp_V B m0 m2 D R l0 l1 d n b p t e n w2 → f < n → m2.aI (B 26) e1 = nI g → g < p → m2.aI (B 18) g = nI q → lk + 1 ≤ q → q ≤ 8 → (th = -1 ∨ ∃ j, th = nI j ∧ j < n) → sp_b01 dd → w 0 0 m2 253 [(0, false, va_rf (some (B 0))), (1, false, .int (nI e1)), (2, false, .int rl), (5, false, .int (nI f)), (6, false, .int (nI lk)), (7, false, .int th), (8, false, .int kk), (9, false, .int dd), (10, false, .int bo)] [] := by
    intro f lk g q w2 th kk dd bo m2 rkm2 hVm2 hfn hg hgp hq hlq hq8 hth hdd
    refine sp_aload_n X (pc := 253) (r := some (B 0)) dX12_takes_253 rfl rfl ?_
    refine sp_getfield X (pc := 254) (c := 13) (i := 31) (t := 0) (a := (B 0)) (v := .int (m2.fI 863 (B 0))) rfl hVm2.r.o (by decide) rfl rfl fl_Mo_217 dX12_takes_254 ?_
    refine sp_iload X (pc := 257) (x := nI lk) dX12_takes_257 rfl ?_
    refine sp_iadd X (pc := 259) dX12_takes_259 ?_
    refine sp_i2l X (pc := 260) dX12_takes_260 ?_
    refine sp_lconst X (pc := 261) (v := 1) dX12_takes_261 (by decide) ?_
    refine sp_ladd X (pc := 262) dX12_takes_262 ?_
    refine sp_aload_n X (pc := 263) (r := some (B 0)) dX12_takes_263 rfl rfl ?_
    refine sp_getfield X (pc := 264) (c := 13) (i := 29) (t := 1) (a := (B 0)) (v := .long l0) rfl hVm2.r.o (by decide) rfl (congrArg Value.long hVm2.c0) fl_Mo_77 dX12_takes_264 ?_
    refine sp_lcmp X (pc := 267) dX12_takes_267 ?_
    refine sp_if_gt X (pc := 268) (tgt := 296) dX12_takes_268 (by decide) (fun hb268 => ?_) (fun hb268 => ?_)
    · refine sp_bipush X (pc := 296) (v := (-21)) dX12_takes_296 (by decide) ?_
      refine sp_ireturn X (pc := 298) dX12_takes_298 rfl ⟨_, rfl, ?_⟩
      exact ⟨_, _, _, hVm2, Nat.le_refl _, rkm2⟩
    · refine sp_iload X (pc := 271) (x := kk) dX12_takes_271 rfl ?_
      refine sp_iconst X (pc := 273) (v := 1) dX12_takes_273 (by decide) ?_
      refine sp_icmp_ne X (pc := 274) (tgt := 299) dX12_takes_274 (by decide) (fun hb274 => ?_) (fun hb274 => ?_)
      · refine sp_aload_n X (pc := 299) (r := some (B 0)) dX12_takes_299 rfl rfl ?_
        refine sp_getfield X (pc := 300) (c := 13) (i := 3) (t := 0) (a := (B 0)) (v := .int (nI n)) rfl hVm2.r.o (by decide) rfl (congrArg Value.int hVm2.cn) fl_Mo_115 dX12_takes_300 ?_
        refine sp_iload X (pc := 303) (x := nI lk) dX12_takes_303 rfl ?_
        refine sp_iadd X (pc := 305) dX12_takes_305 ?_
        rw [show ((nI n) + (nI lk)) = (nI (n + lk)) from (nI_add n lk)]
        refine sp_iconst X (pc := 306) (v := 1) dX12_takes_306 (by decide) ?_
        refine sp_iadd X (pc := 307) dX12_takes_307 ?_
        rw [show ((nI (n + lk)) + 1) = (nI ((n + lk) + 1)) from (nI_add (n + lk) 1)]
        refine sp_sipush X (pc := 308) (v := 200) dX12_takes_308 (by decide) ?_
        refine sp_icmp_le X (pc := 311) (tgt := 317) dX12_takes_311 (by decide) (fun hb311 => ?_) (fun hb311 => ?_)
        · have h200 : n + lk + 1 ≤ 200 := sp_nge (b := n + lk + 1) (a := 200) hb311 (by omega) (by omega)
          refine sp_iload_n X (pc := 317) (x := rl) dX12_takes_317 rfl rfl ?_
          refine sp_if_eq X (pc := 318) (tgt := 339) dX12_takes_318 (by decide) (fun hb318 => ?_) (fun hb318 => ?_)
          · refine sp_iconst X (pc := 339) (v := 0) dX12_takes_339 (by decide) ?_
            refine sp_ireturn X (pc := 340) dX12_takes_340 rfl ⟨_, rfl, ?_⟩
            first | exact ⟨_, _, _, hVm333, hn333, rkm333⟩ | exact ⟨_, _, _, hVm2, Nat.le_refl _, rkm2⟩
          · refine sp_aload_n X (pc := 321) (r := some (B 0)) dX12_takes_321 rfl rfl ?_
            refine sp_iload_n X (pc := 322) (x := nI e1) dX12_takes_322 rfl rfl ?_
            refine sp_iload X (pc := 323) (x := nI f) dX12_takes_323 rfl ?_
            refine sp_iload X (pc := 325) (x := nI lk) dX12_takes_325 rfl ?_
            refine sp_iload X (pc := 327) (x := th) dX12_takes_327 rfl ?_
            refine sp_iload X (pc := 329) (x := dd) dX12_takes_329 rfl ?_
            refine sp_iload X (pc := 331) (x := bo) dX12_takes_331 rfl ?_
            refine sp_callV X (pc := 333) (mc := 0) (ms := 0) (b := (B 0)) (c := 13) (r := some (B 0)) (As := [.int (nI e1), .int (nI f), .int (nI lk), .int th, .int dd, .int bo]) (rest := []) (c_Mo_comes l G _ hVm2 he1 hfn h200 hg hgp hq hlq hq8 hth hdd) ok_Mo_comes rfl hVm2.r.o (by decide) rfl lk_Mo_223 rfl rfl (Nat.zero_le _) (Nat.le_of_ble_eq_true rfl) (Nat.le_of_ble_eq_true rfl) (Nat.zero_le _) (Nat.zero_le _) dX12_takes_333 (sp_kI fun v333 m333 hp333 => ?_)
            obtain ⟨n333, b333, w333, hVm333, hn333, hr333⟩ := hp333
            have rkm333 : sp_rk B [4, 6, 7, 8, 9, 10, 11, 12, 16, 34, 36, 37] m m333 := rkm2.trans ((hr333).mono (by decide))
            refine sp_goto X (pc := 336) (tgt := 340) dX12_takes_336 (by decide) ?_
            refine sp_ireturn X (pc := 340) dX12_takes_340 rfl ⟨_, rfl, ?_⟩
            first | exact ⟨_, _, _, hVm333, hn333, rkm333⟩ | exact ⟨_, _, _, hVm2, Nat.le_refl _, rkm2⟩
        · refine sp_bipush X (pc := 314) (v := (-6)) dX12_takes_314 (by decide) ?_
          refine sp_ireturn X (pc := 316) dX12_takes_316 rfl ⟨_, rfl, ?_⟩
          exact ⟨_, _, _, hVm2, Nat.le_refl _, rkm2⟩
      · refine sp_aload_n X (pc := 277) (r := some (B 0)) dX12_takes_277 rfl rfl ?_
        refine sp_getfield X (pc := 278) (c := 13) (i := 32) (t := 1) (a := (B 0)) (v := .long (m2.fL 864 (B 0))) rfl hVm2.r.o (by decide) rfl rfl fl_Mo_220 dX12_takes_278 ?_
        refine sp_aload_n X (pc := 281) (r := some (B 0)) dX12_takes_281 rfl rfl ?_
        refine sp_getfield X (pc := 282) (c := 13) (i := 28) (t := 2) (a := (B 0)) (v := va_rf (some (B 28))) rfl hVm2.r.o (by decide) rfl (congrArg va_rf hVm2.f28) fl_Mo_72 dX12_takes_282 ?_
        refine sp_iload_n X (pc := 285) (x := nI e1) dX12_takes_285 rfl rfl ?_
        refine sp_laload X (pc := 286) (a := (B 28)) rfl hVm2.y28 (sp_in e1 hVm2.l28 (by omega) (by decide)) dX12_takes_286 ?_
        rw [show (m2.aL (B 28) (nI e1).toNatClampNeg) = (m2.aL (B 28) e1) from (congrArg _ (nI_clamp (n := e1) (by omega)))]
        refine sp_ladd X (pc := 287) dX12_takes_287 ?_
        refine sp_aload_n X (pc := 288) (r := some (B 0)) dX12_takes_288 rfl rfl ?_
        refine sp_getfield X (pc := 289) (c := 13) (i := 30) (t := 1) (a := (B 0)) (v := .long l1) rfl hVm2.r.o (by decide) rfl (congrArg Value.long hVm2.c1) fl_Mo_83 dX12_takes_289 ?_
        refine sp_lcmp X (pc := 292) dX12_takes_292 ?_
        refine sp_if_le X (pc := 293) (tgt := 299) dX12_takes_293 (by decide) (fun hb293 => ?_) (fun hb293 => ?_)
        · refine sp_aload_n X (pc := 299) (r := some (B 0)) dX12_takes_299 rfl rfl ?_
          refine sp_getfield X (pc := 300) (c := 13) (i := 3) (t := 0) (a := (B 0)) (v := .int (nI n)) rfl hVm2.r.o (by decide) rfl (congrArg Value.int hVm2.cn) fl_Mo_115 dX12_takes_300 ?_
          refine sp_iload X (pc := 303) (x := nI lk) dX12_takes_303 rfl ?_
          refine sp_iadd X (pc := 305) dX12_takes_305 ?_
          rw [show ((nI n) + (nI lk)) = (nI (n + lk)) from (nI_add n lk)]
          refine sp_iconst X (pc := 306) (v := 1) dX12_takes_306 (by decide) ?_
          refine sp_iadd X (pc := 307) dX12_takes_307 ?_
          rw [show ((nI (n + lk)) + 1) = (nI ((n + lk) + 1)) from (nI_add (n + lk) 1)]
          refine sp_sipush X (pc := 308) (v := 200) dX12_takes_308 (by decide) ?_
          refine sp_icmp_le X (pc := 311) (tgt := 317) dX12_takes_311 (by decide) (fun hb311 => ?_) (fun hb311 => ?_)
          · have h200 : n + lk + 1 ≤ 200 := sp_nge (b := n + lk + 1) (a := 200) hb311 (by omega) (by omega)
            refine sp_iload_n X (pc := 317) (x := rl) dX12_takes_317 rfl rfl ?_
            refine sp_if_eq X (pc := 318) (tgt := 339) dX12_takes_318 (by decide) (fun hb318 => ?_) (fun hb318 => ?_)
            · refine sp_iconst X (pc := 339) (v := 0) dX12_takes_339 (by decide) ?_
              refine sp_ireturn X (pc := 340) dX12_takes_340 rfl ⟨_, rfl, ?_⟩
              first | exact ⟨_, _, _, hVm333, hn333, rkm333⟩ | exact ⟨_, _, _, hVm2, Nat.le_refl _, rkm2⟩
            · refine sp_aload_n X (pc := 321) (r := some (B 0)) dX12_takes_321 rfl rfl ?_
              refine sp_iload_n X (pc := 322) (x := nI e1) dX12_takes_322 rfl rfl ?_
              refine sp_iload X (pc := 323) (x := nI f) dX12_takes_323 rfl ?_
              refine sp_iload X (pc := 325) (x := nI lk) dX12_takes_325 rfl ?_
              refine sp_iload X (pc := 327) (x := th) dX12_takes_327 rfl ?_
              refine sp_iload X (pc := 329) (x := dd) dX12_takes_329 rfl ?_
              refine sp_iload X (pc := 331) (x := bo) dX12_takes_331 rfl ?_
              refine sp_callV X (pc := 333) (mc := 0) (ms := 0) (b := (B 0)) (c := 13) (r := some (B 0)) (As := [.int (nI e1), .int (nI f), .int (nI lk), .int th, .int dd, .int bo]) (rest := []) (c_Mo_comes l G _ hVm2 he1 hfn h200 hg hgp hq hlq hq8 hth hdd) ok_Mo_comes rfl hVm2.r.o (by decide) rfl lk_Mo_223 rfl rfl (Nat.zero_le _) (Nat.le_of_ble_eq_true rfl) (Nat.le_of_ble_eq_true rfl) (Nat.zero_le _) (Nat.zero_le _) dX12_takes_333 (sp_kI fun v333 m333 hp333 => ?_)
              obtain ⟨n333, b333, w333, hVm333, hn333, hr333⟩ := hp333
              have rkm333 : sp_rk B [4, 6, 7, 8, 9, 10, 11, 12, 16, 34, 36, 37] m m333 := rkm2.trans ((hr333).mono (by decide))
              refine sp_goto X (pc := 336) (tgt := 340) dX12_takes_336 (by decide) ?_
              refine sp_ireturn X (pc := 340) dX12_takes_340 rfl ⟨_, rfl, ?_⟩
              first | exact ⟨_, _, _, hVm333, hn333, rkm333⟩ | exact ⟨_, _, _, hVm2, Nat.le_refl _, rkm2⟩
          · refine sp_bipush X (pc := 314) (v := (-6)) dX12_takes_314 (by decide) ?_
            refine sp_ireturn X (pc := 316) dX12_takes_316 rfl ⟨_, rfl, ?_⟩
            exact ⟨_, _, _, hVm2, Nat.le_refl _, rkm2⟩
        · refine sp_bipush X (pc := 296) (v := (-21)) dX12_takes_296 (by decide) ?_
          refine sp_ireturn X (pc := 298) dX12_takes_298 rfl ⟨_, rfl, ?_⟩
          exact ⟨_, _, _, hVm2, Nat.le_refl _, rkm2⟩
  have cut140 : ∀ (f lk g q w1 : Nat) (th kk : Int32) (m1 : sp_M), sp_rk B [4, 6, 7, 8, 9, 10, 11, 12, 16, 34, 36, 37] m m1 → sp_V B m0 m1 D R l0 l1 d n b p t e n w1 → f < n → m1.aI (B 26) e1 = nI g → g < p → m1.aI (B 18) g = nI q → lk + 1 ≤ q → q ≤ 8 → (th = -1 ∨ ∃ j, th = nI j ∧ j < n) → m1.aI (B 25) e1 = kk → w 0 0 m1 140 [(0, false, va_rf (some (B 0))), (1, false, .int (nI e1)), (2, false, .int rl), (5, false, .int (nI f)), (6, false, .int (nI lk)), (7, false, .int th), (8, false, .int kk)] [] := by
    intro f lk g q w1 th kk m1 rkm1 hVm1 hfn hg hgp hq hlq hq8 hth hkk
    refine sp_aload_n X (pc := 140) (r := some (B 0)) dX12_takes_140 rfl rfl ?_
    refine sp_iload X (pc := 141) (x := nI f) dX12_takes_141 rfl ?_
    refine sp_iload X (pc := 143) (x := nI lk) dX12_takes_143 rfl ?_
    refine sp_callV X (pc := 145) (mc := 0) (ms := 0) (b := (B 0)) (c := 13) (r := some (B 0)) (As := [.int (nI f), .int (nI lk)]) (rest := []) (c_Mo_isThere l G _ hVm1 hfn) ok_Mo_isThere rfl hVm1.r.o (by decide) rfl lk_Mo_210 rfl rfl (Nat.zero_le _) (Nat.le_of_ble_eq_true rfl) (Nat.le_of_ble_eq_true rfl) (Nat.zero_le _) (Nat.zero_le _) dX12_takes_145 (sp_kI fun v145 m145 hp145 => ?_)
    obtain ⟨hp145, hp145m⟩ := hp145; replace hp145m := (hp145m).symm; subst hp145m
    refine sp_if_eq X (pc := 148) (tgt := 154) dX12_takes_148 (by decide) (fun hb148 => ?_) (fun hb148 => ?_)
    · refine sp_iconst X (pc := 154) (v := 0) dX12_takes_154 (by decide) ?_
      refine sp_istore X (pc := 155) (lv' := [(9, false, .int 0), (0, false, va_rf (some (B 0))), (1, false, .int (nI e1)), (2, false, .int rl), (5, false, .int (nI f)), (6, false, .int (nI lk)), (7, false, .int th), (8, false, .int kk)]) dX12_takes_155  (by decide) rfl ?_
      refine sp_iconst X (pc := 157) (v := (-1)) dX12_takes_157 (by decide) ?_
      refine sp_istore X (pc := 158) (lv' := [(10, false, .int (-1)), (9, false, .int 0), (0, false, va_rf (some (B 0))), (1, false, .int (nI e1)), (2, false, .int rl), (5, false, .int (nI f)), (6, false, .int (nI lk)), (7, false, .int th), (8, false, .int kk)]) dX12_takes_158  (by decide) rfl ?_
      refine sp_iload X (pc := 160) (x := kk) dX12_takes_160 rfl ?_
      refine sp_iconst X (pc := 162) (v := 2) dX12_takes_162 (by decide) ?_
      refine sp_icmp_ne X (pc := 163) (tgt := 207) dX12_takes_163 (by decide) (fun hb163 => ?_) (fun hb163 => ?_)
      · refine sp_iload X (pc := 207) (x := kk) dX12_takes_207 rfl ?_
        refine sp_iconst X (pc := 209) (v := 3) dX12_takes_209 (by decide) ?_
        refine sp_icmp_ne X (pc := 210) (tgt := 253) dX12_takes_210 (by decide) (fun hb210 => ?_) (fun hb210 => ?_)
        · refine sp_pick X [2, 3, 4, 5, 6, 7, 8, 1, 0] (lv' := [(0, false, va_rf (some (B 0))), (1, false, .int (nI e1)), (2, false, .int rl), (5, false, .int (nI f)), (6, false, .int (nI lk)), (7, false, .int th), (8, false, .int kk), (9, false, .int 0), (10, false, .int (-1))]) rfl ?_
          first
            | exact cut253 f lk g q _ _ _ 0 _ _ rkm1 hVm1 hfn hg hgp hq hlq hq8 hth (Or.inl rfl)
            | exact cut253 f lk g q _ _ _ 0 _ _ rkm1 hVm177 hfn hg177 hgp hq177 hlq hq8 hth (Or.inl rfl)
            | exact cut253 f lk g q _ _ _ 1 _ _ rkm1 hVm177 hfn hg177 hgp hq177 hlq hq8 hth (Or.inr rfl)
            | exact cut253 f lk g q _ _ _ 0 _ _ rkm1 hVm220 hfn hg220 hgp hq220 hlq hq8 hth (Or.inl rfl)
        · obtain ⟨g3, hg3, hg3p⟩ := hVm1.e3 e1 he1 (hkk.trans hb210)
          refine sp_aload_n X (pc := 213) (r := some (B 0)) dX12_takes_213 rfl rfl ?_
          refine sp_aload_n X (pc := 214) (r := some (B 0)) dX12_takes_214 rfl rfl ?_
          refine sp_getfield X (pc := 215) (c := 13) (i := 27) (t := 2) (a := (B 0)) (v := va_rf (some (B 27))) rfl hVm1.r.o (by decide) rfl (congrArg va_rf hVm1.f27) fl_Mo_69 dX12_takes_215 ?_
          refine sp_iload_n X (pc := 218) (x := nI e1) dX12_takes_218 rfl rfl ?_
          refine sp_iaload X (pc := 219) (a := (B 27)) rfl (Or.inl hVm1.y27) (sp_in e1 hVm1.l27 (by omega) (by decide)) dX12_takes_219 ?_
          rw [show (m1.aI (B 27) (nI e1).toNatClampNeg) = (m1.aI (B 27) e1) from (congrArg _ (nI_clamp (n := e1) (by omega)))]
          rw [show (m1.aI (B 27) e1) = (nI g3) from hg3]
          refine sp_callV X (pc := 220) (mc := 0) (ms := 0) (b := (B 0)) (c := 13) (r := some (B 0)) (As := [.int (nI g3)]) (rest := []) (c_Mo_fileAt l G _ hVm1 hg3p h4) ok_Mo_fileAt rfl hVm1.r.o (by decide) rfl lk_Mo_214 rfl rfl (Nat.zero_le _) (Nat.le_of_ble_eq_true rfl) (Nat.le_of_ble_eq_true rfl) (Nat.zero_le _) (Nat.zero_le _) dX12_takes_220 (sp_kI fun v220 m220 hp220 => ?_)
          obtain ⟨w220, hVm220, hr220, hv220⟩ := hp220
          have hg220 : m220.aI (B 26) e1 = nI g := (congrFun (hr220 26 (by decide) (by decide)) _).trans hg
          have hq220 : m220.aI (B 18) g = nI q := (congrFun (hr220 18 (by decide) (by decide)) _).trans hq
          have rkm220 : sp_rk B [4, 6, 7, 8, 9, 10, 11, 12, 16, 34, 36, 37] m m220 := rkm1.trans ((hr220).mono (by decide))
          refine sp_istore X (pc := 223) (lv' := [(11, false, .int v220), (10, false, .int (-1)), (9, false, .int 0), (0, false, va_rf (some (B 0))), (1, false, .int (nI e1)), (2, false, .int rl), (5, false, .int (nI f)), (6, false, .int (nI lk)), (7, false, .int th), (8, false, .int kk)]) dX12_takes_223  (by decide) rfl ?_
          refine sp_iload X (pc := 225) (x := v220) dX12_takes_225 rfl ?_
          refine sp_iconst X (pc := 227) (v := (-1)) dX12_takes_227 (by decide) ?_
          refine sp_icmp_ne X (pc := 228) (tgt := 234) dX12_takes_228 (by decide) (fun hb228 => ?_) (fun hb228 => ?_)
          · have hj0 : ∃ j, v220 = nI j ∧ j < n := by
              rcases hv220 with z | z
              · exact absurd z hb228
              · exact z
            obtain ⟨j2, rfl, hj2⟩ := hj0
            refine sp_iload X (pc := 234) (x := (nI j2)) dX12_takes_234 rfl ?_
            refine sp_iload X (pc := 236) (x := th) dX12_takes_236 rfl ?_
            refine sp_icmp_ne X (pc := 238) (tgt := 244) dX12_takes_238 (by decide) (fun hb238 => ?_) (fun hb238 => ?_)
            · refine sp_aload_n X (pc := 244) (r := some (B 0)) dX12_takes_244 rfl rfl ?_
              refine sp_getfield X (pc := 245) (c := 13) (i := 9) (t := 2) (a := (B 0)) (v := va_rf (some (B 9))) rfl hVm220.r.o (by decide) rfl (congrArg va_rf hVm220.f9) fl_Mo_29 dX12_takes_245 ?_
              refine sp_iload X (pc := 248) (x := (nI j2)) dX12_takes_248 rfl ?_
              refine sp_iaload X (pc := 250) (a := (B 9)) rfl (Or.inl hVm220.y9) (sp_in j2 hVm220.l9 (by omega) (by decide)) dX12_takes_250 ?_
              rw [show (m220.aI (B 9) (nI j2).toNatClampNeg) = (m220.aI (B 9) j2) from (congrArg _ (nI_clamp (n := j2) (by omega)))]
              refine sp_istore X (pc := 251) (lv' := [(10, false, .int (m220.aI (B 9) j2)), (11, false, .int (nI j2)), (9, false, .int 0), (0, false, va_rf (some (B 0))), (1, false, .int (nI e1)), (2, false, .int rl), (5, false, .int (nI f)), (6, false, .int (nI lk)), (7, false, .int th), (8, false, .int kk)]) dX12_takes_251  (by decide) rfl ?_
              refine sp_pick X [3, 4, 5, 6, 7, 8, 9, 2, 0] (lv' := [(0, false, va_rf (some (B 0))), (1, false, .int (nI e1)), (2, false, .int rl), (5, false, .int (nI f)), (6, false, .int (nI lk)), (7, false, .int th), (8, false, .int kk), (9, false, .int 0), (10, false, .int (m220.aI (B 9) j2))]) rfl ?_
              first
                | exact cut253 f lk g q _ _ _ 0 _ _ rkm220 hVm1 hfn hg hgp hq hlq hq8 hth (Or.inl rfl)
                | exact cut253 f lk g q _ _ _ 0 _ _ rkm220 hVm177 hfn hg177 hgp hq177 hlq hq8 hth (Or.inl rfl)
                | exact cut253 f lk g q _ _ _ 1 _ _ rkm220 hVm177 hfn hg177 hgp hq177 hlq hq8 hth (Or.inr rfl)
                | exact cut253 f lk g q _ _ _ 0 _ _ rkm220 hVm220 hfn hg220 hgp hq220 hlq hq8 hth (Or.inl rfl)
            · refine sp_iload X (pc := 241) (x := th) dX12_takes_241 rfl ?_
              refine sp_ireturn X (pc := 243) dX12_takes_243 rfl ⟨_, rfl, ?_⟩
              exact ⟨_, _, _, hVm220, Nat.le_refl _, rkm220⟩
          · refine sp_bipush X (pc := 231) (v := (-19)) dX12_takes_231 (by decide) ?_
            refine sp_ireturn X (pc := 233) dX12_takes_233 rfl ⟨_, rfl, ?_⟩
            exact ⟨_, _, _, hVm220, Nat.le_refl _, rkm220⟩
      · obtain ⟨g2, hg2, hg2t⟩ := hVm1.e2 e1 he1 (hkk.trans hb163)
        refine sp_aload_n X (pc := 166) (r := some (B 0)) dX12_takes_166 rfl rfl ?_
        refine sp_aload_n X (pc := 167) (r := some (B 0)) dX12_takes_167 rfl rfl ?_
        refine sp_getfield X (pc := 168) (c := 13) (i := 27) (t := 2) (a := (B 0)) (v := va_rf (some (B 27))) rfl hVm1.r.o (by decide) rfl (congrArg va_rf hVm1.f27) fl_Mo_69 dX12_takes_168 ?_
        refine sp_iload_n X (pc := 171) (x := nI e1) dX12_takes_171 rfl rfl ?_
        refine sp_iaload X (pc := 172) (a := (B 27)) rfl (Or.inl hVm1.y27) (sp_in e1 hVm1.l27 (by omega) (by decide)) dX12_takes_172 ?_
        rw [show (m1.aI (B 27) (nI e1).toNatClampNeg) = (m1.aI (B 27) e1) from (congrArg _ (nI_clamp (n := e1) (by omega)))]
        rw [show (m1.aI (B 27) e1) = (nI g2) from hg2]
        refine sp_iload X (pc := 173) (x := nI f) dX12_takes_173 rfl ?_
        refine sp_iload X (pc := 175) (x := nI lk) dX12_takes_175 rfl ?_
        refine sp_callV X (pc := 177) (mc := 0) (ms := 0) (b := (B 0)) (c := 13) (r := some (B 0)) (As := [.int (nI g2), .int (nI f), .int (nI lk)]) (rest := []) (c_Mo_leads l G _ hVm1 hg2t hfn) ok_Mo_leads rfl hVm1.r.o (by decide) rfl lk_Mo_177 rfl rfl (Nat.zero_le _) (Nat.le_of_ble_eq_true rfl) (Nat.le_of_ble_eq_true rfl) (Nat.zero_le _) (Nat.zero_le _) dX12_takes_177 (sp_kI fun v177 m177 hp177 => ?_)
        obtain ⟨w177, hVm177, hr177⟩ := hp177
        have hg177 : m177.aI (B 26) e1 = nI g := (congrFun (hr177 26 (by decide) (by decide)) _).trans hg
        have hq177 : m177.aI (B 18) g = nI q := (congrFun (hr177 18 (by decide) (by decide)) _).trans hq
        have rkm177 : sp_rk B [4, 6, 7, 8, 9, 10, 11, 12, 16, 34, 36, 37] m m177 := rkm1.trans ((hr177).mono (by decide))
        refine sp_iconst X (pc := 180) (v := (-1)) dX12_takes_180 (by decide) ?_
        refine sp_icmp_ne X (pc := 181) (tgt := 188) dX12_takes_181 (by decide) (fun hb181 => ?_) (fun hb181 => ?_)
        · refine sp_iconst X (pc := 188) (v := 0) dX12_takes_188 (by decide) ?_
          refine sp_istore X (pc := 189) (lv' := [(9, false, .int 0), (10, false, .int (-1)), (0, false, va_rf (some (B 0))), (1, false, .int (nI e1)), (2, false, .int rl), (5, false, .int (nI f)), (6, false, .int (nI lk)), (7, false, .int th), (8, false, .int kk)]) dX12_takes_189  (by decide) rfl ?_
          refine sp_iload X (pc := 191) (x := 0) dX12_takes_191 rfl ?_
          refine sp_if_eq X (pc := 193) (tgt := 253) dX12_takes_193 (by decide) (fun hb193 => ?_) (fun hb193 => ?_)
          · refine sp_pick X [2, 3, 4, 5, 6, 7, 8, 0, 1] (lv' := [(0, false, va_rf (some (B 0))), (1, false, .int (nI e1)), (2, false, .int rl), (5, false, .int (nI f)), (6, false, .int (nI lk)), (7, false, .int th), (8, false, .int kk), (9, false, .int 0), (10, false, .int (-1))]) rfl ?_
            first
              | exact cut253 f lk g q _ _ _ 0 _ _ rkm177 hVm1 hfn hg hgp hq hlq hq8 hth (Or.inl rfl)
              | exact cut253 f lk g q _ _ _ 0 _ _ rkm177 hVm177 hfn hg177 hgp hq177 hlq hq8 hth (Or.inl rfl)
              | exact cut253 f lk g q _ _ _ 1 _ _ rkm177 hVm177 hfn hg177 hgp hq177 hlq hq8 hth (Or.inr rfl)
              | exact cut253 f lk g q _ _ _ 0 _ _ rkm177 hVm220 hfn hg220 hgp hq220 hlq hq8 hth (Or.inl rfl)
          · first | exact absurd hb193 (by decide) | exact absurd (by decide) hb193
        · refine sp_iconst X (pc := 184) (v := 1) dX12_takes_184 (by decide) ?_
          refine sp_goto X (pc := 185) (tgt := 189) dX12_takes_185 (by decide) ?_
          refine sp_istore X (pc := 189) (lv' := [(9, false, .int 1), (10, false, .int (-1)), (0, false, va_rf (some (B 0))), (1, false, .int (nI e1)), (2, false, .int rl), (5, false, .int (nI f)), (6, false, .int (nI lk)), (7, false, .int th), (8, false, .int kk)]) dX12_takes_189  (by decide) rfl ?_
          refine sp_iload X (pc := 191) (x := 1) dX12_takes_191 rfl ?_
          refine sp_if_eq X (pc := 193) (tgt := 253) dX12_takes_193 (by decide) (fun hb193 => ?_) (fun hb193 => ?_)
          · first | exact absurd hb193 (by decide) | exact absurd (by decide) hb193
          · refine sp_aload_n X (pc := 196) (r := some (B 0)) dX12_takes_196 rfl rfl ?_
            refine sp_iconst X (pc := 197) (v := 4) dX12_takes_197 (by decide) ?_
            refine sp_callV X (pc := 198) (mc := 0) (ms := 0) (b := (B 0)) (c := 13) (r := some (B 0)) (As := [.int 4]) (rest := []) (c_Mo_hasRule l G _ hVm177) ok_Mo_hasRule rfl hVm177.r.o (by decide) rfl lk_Mo_118 rfl rfl (Nat.zero_le _) (Nat.le_of_ble_eq_true rfl) (Nat.le_of_ble_eq_true rfl) (Nat.zero_le _) (Nat.zero_le _) dX12_takes_198 (sp_kI fun v198 m198 hp198 => ?_)
            obtain ⟨hp198v, hp198⟩ := hp198; replace hp198 := (hp198).symm; subst hp198; replace hp198v := (hp198v).symm; subst hp198v
            refine sp_if_ne X (pc := 201) (tgt := 253) dX12_takes_201 (by decide) (fun hb201 => ?_) (fun hb201 => ?_)
            · refine sp_pick X [2, 3, 4, 5, 6, 7, 8, 0, 1] (lv' := [(0, false, va_rf (some (B 0))), (1, false, .int (nI e1)), (2, false, .int rl), (5, false, .int (nI f)), (6, false, .int (nI lk)), (7, false, .int th), (8, false, .int kk), (9, false, .int 1), (10, false, .int (-1))]) rfl ?_
              first
                | exact cut253 f lk g q _ _ _ 0 _ _ rkm177 hVm1 hfn hg hgp hq hlq hq8 hth (Or.inl rfl)
                | exact cut253 f lk g q _ _ _ 0 _ _ rkm177 hVm177 hfn hg177 hgp hq177 hlq hq8 hth (Or.inl rfl)
                | exact cut253 f lk g q _ _ _ 1 _ _ rkm177 hVm177 hfn hg177 hgp hq177 hlq hq8 hth (Or.inr rfl)
                | exact cut253 f lk g q _ _ _ 0 _ _ rkm177 hVm220 hfn hg220 hgp hq220 hlq hq8 hth (Or.inl rfl)
            · refine sp_bipush X (pc := 204) (v := (-18)) dX12_takes_204 (by decide) ?_
              refine sp_ireturn X (pc := 206) dX12_takes_206 rfl ⟨_, rfl, ?_⟩
              exact ⟨_, _, _, hVm177, Nat.le_refl _, rkm177⟩
    · refine sp_bipush X (pc := 151) (v := (-16)) dX12_takes_151 (by decide) ?_
      refine sp_ireturn X (pc := 153) dX12_takes_153 rfl ⟨_, rfl, ?_⟩
      exact ⟨_, _, _, hVm1, Nat.le_refl _, rkm1⟩
  refine sp_aload_n X (pc := 0) (r := some (B 0)) dX12_takes_0 rfl rfl ?_
  refine sp_getfield X (pc := 1) (c := 13) (i := 26) (t := 2) (a := (B 0)) (v := va_rf (some (B 26))) rfl hVm.r.o (by decide) rfl (congrArg va_rf hVm.f26) fl_Mo_66 dX12_takes_1 ?_
  refine sp_iload_n X (pc := 4) (x := nI e1) dX12_takes_4 rfl rfl ?_
  refine sp_iaload X (pc := 5) (a := (B 26)) rfl (Or.inl hVm.y26) (sp_in e1 hVm.l26 (by omega) (by decide)) dX12_takes_5 ?_
  rw [show (m.aI (B 26) (nI e1).toNatClampNeg) = (m.aI (B 26) e1) from (congrArg _ (nI_clamp (n := e1) (by omega)))]
  rw [show (m.aI (B 26) e1) = (nI g0) from hg0]
  refine sp_istore_n X (pc := 6) (lv' := [(3, false, .int (nI g0)), (0, false, va_rf (some (B 0))), (1, false, .int (nI e1)), (2, false, .int rl)]) dX12_takes_6 rfl (by decide) rfl ?_
  refine sp_aload_n X (pc := 7) (r := some (B 0)) dX12_takes_7 rfl rfl ?_
  refine sp_iload_n X (pc := 8) (x := (nI g0)) dX12_takes_8 rfl rfl ?_
  refine sp_aload_n X (pc := 9) (r := some (B 0)) dX12_takes_9 rfl rfl ?_
  refine sp_bipush X (pc := 10) (v := 32) dX12_takes_10 (by decide) ?_
  refine sp_callV X (pc := 12) (mc := 0) (ms := 0) (b := (B 0)) (c := 13) (r := some (B 0)) (As := [.int 32]) (rest := [.int (nI g0), va_rf (some (B 0))]) (c_Mo_hasRule l G _ hVm) ok_Mo_hasRule rfl hVm.r.o (by decide) rfl lk_Mo_118 rfl rfl (by simp [sp_cat_rf, sp_cat_i, sp_cat_l]) (Nat.le_of_ble_eq_true rfl) (Nat.le_of_ble_eq_true rfl) (Nat.zero_le _) (Nat.zero_le _) dX12_takes_12 (sp_kI fun v12 m12 hp12 => ?_)
  obtain ⟨hp12v, hp12⟩ := hp12; replace hp12 := (hp12).symm; subst hp12; replace hp12v := (hp12v).symm; subst hp12v
  refine sp_callV X (pc := 15) (mc := 0) (ms := 0) (b := (B 0)) (c := 13) (r := some (B 0)) (As := [.int (nI g0), .int (sp_hr R 32)]) (rest := []) (c_Mo_walk l G _ hVm hgp0 h4) ok_Mo_walk rfl hVm.r.o (by decide) rfl lk_Mo_199 rfl rfl (Nat.zero_le _) (Nat.le_of_ble_eq_true rfl) (Nat.le_of_ble_eq_true rfl) (Nat.zero_le _) (Nat.zero_le _) dX12_takes_15 (sp_kI fun v15 m15 hp15 => ?_)
  obtain ⟨w15, hVm15, hr15, hc15⟩ := hp15
  have rkm15 : sp_rk B [4, 6, 7, 8, 9, 10, 11, 12, 16, 34, 36, 37] m m15 := rkm.trans ((hr15).mono (by decide))
  refine sp_istore X (pc := 18) (lv' := [(4, false, .int v15), (3, false, .int (nI g0)), (0, false, va_rf (some (B 0))), (1, false, .int (nI e1)), (2, false, .int rl)]) dX12_takes_18  (by decide) rfl ?_
  refine sp_iload X (pc := 20) (x := v15) dX12_takes_20 rfl ?_
  refine sp_if_eq X (pc := 22) (tgt := 28) dX12_takes_22 (by decide) (fun hb22 => ?_) (fun hb22 => ?_)
  · obtain ⟨f, lk, q, hfe, hfn, hlke, hq0, hlq, hq8, hth0⟩ := hc15 hb22
    obtain ⟨th, hthe, hth⟩ : ∃ th, m15.fI 873 (B 0) = th ∧ (th = -1 ∨ ∃ j, th = nI j ∧ j < n) := ⟨_, rfl, hth0⟩
    obtain ⟨kk, hkk⟩ : ∃ kk, m15.aI (B 25) e1 = kk := ⟨_, rfl⟩
    have hg : m15.aI (B 26) e1 = nI g0 := (congrFun (hr15 26 (by decide) (by decide)) _).trans hg0
    have hq : m15.aI (B 18) g0 = nI q := (congrFun (hr15 18 (by decide) (by decide)) _).trans hq0
    refine sp_aload_n X (pc := 28) (r := some (B 0)) dX12_takes_28 rfl rfl ?_
    refine sp_getfield X (pc := 29) (c := 13) (i := 39) (t := 0) (a := (B 0)) (v := .int (nI f)) rfl hVm15.r.o (by decide) rfl (congrArg Value.int hfe) fl_Mo_196 dX12_takes_29 ?_
    refine sp_istore X (pc := 32) (lv' := [(5, false, .int (nI f)), (4, false, .int v15), (3, false, .int (nI g0)), (0, false, va_rf (some (B 0))), (1, false, .int (nI e1)), (2, false, .int rl)]) dX12_takes_32  (by decide) rfl ?_
    refine sp_aload_n X (pc := 34) (r := some (B 0)) dX12_takes_34 rfl rfl ?_
    refine sp_getfield X (pc := 35) (c := 13) (i := 40) (t := 0) (a := (B 0)) (v := .int (nI lk)) rfl hVm15.r.o (by decide) rfl (congrArg Value.int hlke) fl_Mo_186 dX12_takes_35 ?_
    refine sp_istore X (pc := 38) (lv' := [(6, false, .int (nI lk)), (5, false, .int (nI f)), (4, false, .int v15), (3, false, .int (nI g0)), (0, false, va_rf (some (B 0))), (1, false, .int (nI e1)), (2, false, .int rl)]) dX12_takes_38  (by decide) rfl ?_
    refine sp_aload_n X (pc := 40) (r := some (B 0)) dX12_takes_40 rfl rfl ?_
    refine sp_getfield X (pc := 41) (c := 13) (i := 41) (t := 0) (a := (B 0)) (v := .int th) rfl hVm15.r.o (by decide) rfl (congrArg Value.int hthe) fl_Mo_193 dX12_takes_41 ?_
    refine sp_istore X (pc := 44) (lv' := [(7, false, .int th), (6, false, .int (nI lk)), (5, false, .int (nI f)), (4, false, .int v15), (3, false, .int (nI g0)), (0, false, va_rf (some (B 0))), (1, false, .int (nI e1)), (2, false, .int rl)]) dX12_takes_44  (by decide) rfl ?_
    refine sp_aload_n X (pc := 46) (r := some (B 0)) dX12_takes_46 rfl rfl ?_
    refine sp_getfield X (pc := 47) (c := 13) (i := 25) (t := 2) (a := (B 0)) (v := va_rf (some (B 25))) rfl hVm15.r.o (by decide) rfl (congrArg va_rf hVm15.f25) fl_Mo_63 dX12_takes_47 ?_
    refine sp_iload_n X (pc := 50) (x := nI e1) dX12_takes_50 rfl rfl ?_
    refine sp_iaload X (pc := 51) (a := (B 25)) rfl (Or.inl hVm15.y25) (sp_in e1 hVm15.l25 (by omega) (by decide)) dX12_takes_51 ?_
    rw [show (m15.aI (B 25) (nI e1).toNatClampNeg) = (m15.aI (B 25) e1) from (congrArg _ (nI_clamp (n := e1) (by omega)))]
    rw [show (m15.aI (B 25) e1) = kk from hkk]
    refine sp_istore X (pc := 52) (lv' := [(8, false, .int kk), (7, false, .int th), (6, false, .int (nI lk)), (5, false, .int (nI f)), (4, false, .int v15), (3, false, .int (nI g0)), (0, false, va_rf (some (B 0))), (1, false, .int (nI e1)), (2, false, .int rl)]) dX12_takes_52  (by decide) rfl ?_
    refine sp_iload X (pc := 54) (x := kk) dX12_takes_54 rfl ?_
    refine sp_iconst X (pc := 56) (v := 4) dX12_takes_56 (by decide) ?_
    refine sp_icmp_ne X (pc := 57) (tgt := 81) dX12_takes_57 (by decide) (fun hb57 => ?_) (fun hb57 => ?_)
    · refine sp_iload X (pc := 81) (x := kk) dX12_takes_81 rfl ?_
      refine sp_if_ne X (pc := 83) (tgt := 121) dX12_takes_83 (by decide) (fun hb83 => ?_) (fun hb83 => ?_)
      · refine sp_iload X (pc := 121) (x := th) dX12_takes_121 rfl ?_
        refine sp_iconst X (pc := 123) (v := (-1)) dX12_takes_123 (by decide) ?_
        refine sp_icmp_eq X (pc := 124) (tgt := 140) dX12_takes_124 (by decide) (fun hb124 => ?_) (fun hb124 => ?_)
        · refine sp_pick X [6, 7, 8, 3, 2, 1, 0] (lv' := [(0, false, va_rf (some (B 0))), (1, false, .int (nI e1)), (2, false, .int rl), (5, false, .int (nI f)), (6, false, .int (nI lk)), (7, false, .int th), (8, false, .int kk)]) rfl ?_
          first
            | exact cut140 f lk g0 q _ _ kk _ rkm15 hVm15 hfn hg hgp0 hq hlq hq8 hth hkk
            | exact cut140 f lk g0 q _ _ kk _ rkm15 hVm15 hfn hg hgp0 hq hlq hq8 (Or.inr ⟨j, rfl, hjn⟩) hkk
        · have hj0 : ∃ j, th = nI j ∧ j < n := by
            rcases hth with z | z
            · exact absurd z hb124
            · exact z
          obtain ⟨j, hj, hjn⟩ := hj0
          subst hj
          refine sp_aload_n X (pc := 127) (r := some (B 0)) dX12_takes_127 rfl rfl ?_
          refine sp_getfield X (pc := 128) (c := 13) (i := 4) (t := 2) (a := (B 0)) (v := va_rf (some (B 4))) rfl hVm15.r.o (by decide) rfl (congrArg va_rf hVm15.f4) fl_Mo_13 dX12_takes_128 ?_
          refine sp_iload X (pc := 131) (x := (nI j)) dX12_takes_131 rfl ?_
          refine sp_iaload X (pc := 133) (a := (B 4)) rfl (Or.inl hVm15.y4) (sp_in j hVm15.l4 (by omega) (by decide)) dX12_takes_133 ?_
          rw [show (m15.aI (B 4) (nI j).toNatClampNeg) = (m15.aI (B 4) j) from (congrArg _ (nI_clamp (n := j) (by omega)))]
          refine sp_if_ne X (pc := 134) (tgt := 140) dX12_takes_134 (by decide) (fun hb134 => ?_) (fun hb134 => ?_)
          · refine sp_pick X [6, 7, 8, 3, 2, 1, 0] (lv' := [(0, false, va_rf (some (B 0))), (1, false, .int (nI e1)), (2, false, .int rl), (5, false, .int (nI f)), (6, false, .int (nI lk)), (7, false, .int (nI j)), (8, false, .int kk)]) rfl ?_
            first
              | exact cut140 f lk g0 q _ _ kk _ rkm15 hVm15 hfn hg hgp0 hq hlq hq8 hth hkk
              | exact cut140 f lk g0 q _ _ kk _ rkm15 hVm15 hfn hg hgp0 hq hlq hq8 (Or.inr ⟨j, rfl, hjn⟩) hkk
          · refine sp_bipush X (pc := 137) (v := (-17)) dX12_takes_137 (by decide) ?_
            refine sp_ireturn X (pc := 139) dX12_takes_139 rfl ⟨_, rfl, ?_⟩
            exact ⟨_, _, _, hVm15, Nat.le_refl _, rkm15⟩
      · refine sp_iload X (pc := 86) (x := th) dX12_takes_86 rfl ?_
        refine sp_iconst X (pc := 88) (v := (-1)) dX12_takes_88 (by decide) ?_
        refine sp_icmp_eq X (pc := 89) (tgt := 121) dX12_takes_89 (by decide) (fun hb89 => ?_) (fun hb89 => ?_)
        · refine sp_iload X (pc := 121) (x := th) dX12_takes_121 rfl ?_
          refine sp_iconst X (pc := 123) (v := (-1)) dX12_takes_123 (by decide) ?_
          refine sp_icmp_eq X (pc := 124) (tgt := 140) dX12_takes_124 (by decide) (fun hb124 => ?_) (fun hb124 => ?_)
          · refine sp_pick X [6, 7, 8, 3, 2, 1, 0] (lv' := [(0, false, va_rf (some (B 0))), (1, false, .int (nI e1)), (2, false, .int rl), (5, false, .int (nI f)), (6, false, .int (nI lk)), (7, false, .int th), (8, false, .int kk)]) rfl ?_
            first
              | exact cut140 f lk g0 q _ _ kk _ rkm15 hVm15 hfn hg hgp0 hq hlq hq8 hth hkk
              | exact cut140 f lk g0 q _ _ kk _ rkm15 hVm15 hfn hg hgp0 hq hlq hq8 (Or.inr ⟨j, rfl, hjn⟩) hkk
          · have hj0 : ∃ j, th = nI j ∧ j < n := by
              rcases hth with z | z
              · exact absurd z hb124
              · exact z
            obtain ⟨j, hj, hjn⟩ := hj0
            subst hj
            refine sp_aload_n X (pc := 127) (r := some (B 0)) dX12_takes_127 rfl rfl ?_
            refine sp_getfield X (pc := 128) (c := 13) (i := 4) (t := 2) (a := (B 0)) (v := va_rf (some (B 4))) rfl hVm15.r.o (by decide) rfl (congrArg va_rf hVm15.f4) fl_Mo_13 dX12_takes_128 ?_
            refine sp_iload X (pc := 131) (x := (nI j)) dX12_takes_131 rfl ?_
            refine sp_iaload X (pc := 133) (a := (B 4)) rfl (Or.inl hVm15.y4) (sp_in j hVm15.l4 (by omega) (by decide)) dX12_takes_133 ?_
            rw [show (m15.aI (B 4) (nI j).toNatClampNeg) = (m15.aI (B 4) j) from (congrArg _ (nI_clamp (n := j) (by omega)))]
            refine sp_if_ne X (pc := 134) (tgt := 140) dX12_takes_134 (by decide) (fun hb134 => ?_) (fun hb134 => ?_)
            · refine sp_pick X [6, 7, 8, 3, 2, 1, 0] (lv' := [(0, false, va_rf (some (B 0))), (1, false, .int (nI e1)), (2, false, .int rl), (5, false, .int (nI f)), (6, false, .int (nI lk)), (7, false, .int (nI j)), (8, false, .int kk)]) rfl ?_
              first
                | exact cut140 f lk g0 q _ _ kk _ rkm15 hVm15 hfn hg hgp0 hq hlq hq8 hth hkk
                | exact cut140 f lk g0 q _ _ kk _ rkm15 hVm15 hfn hg hgp0 hq hlq hq8 (Or.inr ⟨j, rfl, hjn⟩) hkk
            · refine sp_bipush X (pc := 137) (v := (-17)) dX12_takes_137 (by decide) ?_
              refine sp_ireturn X (pc := 139) dX12_takes_139 rfl ⟨_, rfl, ?_⟩
              exact ⟨_, _, _, hVm15, Nat.le_refl _, rkm15⟩
        · have hj0 : ∃ j, th = nI j ∧ j < n := by
            rcases hth with z | z
            · exact absurd z hb89
            · exact z
          obtain ⟨j, hj, hjn⟩ := hj0
          subst hj
          refine sp_aload_n X (pc := 92) (r := some (B 0)) dX12_takes_92 rfl rfl ?_
          refine sp_getfield X (pc := 93) (c := 13) (i := 4) (t := 2) (a := (B 0)) (v := va_rf (some (B 4))) rfl hVm15.r.o (by decide) rfl (congrArg va_rf hVm15.f4) fl_Mo_13 dX12_takes_93 ?_
          refine sp_iload X (pc := 96) (x := (nI j)) dX12_takes_96 rfl ?_
          refine sp_iaload X (pc := 98) (a := (B 4)) rfl (Or.inl hVm15.y4) (sp_in j hVm15.l4 (by omega) (by decide)) dX12_takes_98 ?_
          rw [show (m15.aI (B 4) (nI j).toNatClampNeg) = (m15.aI (B 4) j) from (congrArg _ (nI_clamp (n := j) (by omega)))]
          refine sp_if_eq X (pc := 99) (tgt := 105) dX12_takes_99 (by decide) (fun hb99 => ?_) (fun hb99 => ?_)
          · refine sp_aload_n X (pc := 105) (r := some (B 0)) dX12_takes_105 rfl rfl ?_
            refine sp_iload X (pc := 106) (x := (nI j)) dX12_takes_106 rfl ?_
            refine sp_aload_n X (pc := 108) (r := some (B 0)) dX12_takes_108 rfl rfl ?_
            refine sp_getfield X (pc := 109) (c := 13) (i := 27) (t := 2) (a := (B 0)) (v := va_rf (some (B 27))) rfl hVm15.r.o (by decide) rfl (congrArg va_rf hVm15.f27) fl_Mo_69 dX12_takes_109 ?_
            refine sp_iload_n X (pc := 112) (x := nI e1) dX12_takes_112 rfl rfl ?_
            refine sp_iaload X (pc := 113) (a := (B 27)) rfl (Or.inl hVm15.y27) (sp_in e1 hVm15.l27 (by omega) (by decide)) dX12_takes_113 ?_
            rw [show (m15.aI (B 27) (nI e1).toNatClampNeg) = (m15.aI (B 27) e1) from (congrArg _ (nI_clamp (n := e1) (by omega)))]
            refine sp_iload_n X (pc := 114) (x := rl) dX12_takes_114 rfl rfl ?_
            refine sp_callV X (pc := 115) (mc := 0) (ms := 0) (b := (B 0)) (c := 13) (r := some (B 0)) (As := [.int (nI j), .int (m15.aI (B 27) e1), .int rl]) (rest := []) (c_Mo_note l G _ hVm15 (j := j) hjn) ok_Mo_note rfl hVm15.r.o (by decide) rfl lk_Mo_206 rfl rfl (Nat.zero_le _) (Nat.le_of_ble_eq_true rfl) (Nat.le_of_ble_eq_true rfl) (Nat.zero_le _) (Nat.zero_le _) dX12_takes_115 (sp_kV fun m115 hp115 => ?_)
            obtain ⟨hVm115, -, hn115⟩ := hp115
            have rkm115 : sp_rk B [4, 6, 7, 8, 9, 10, 11, 12, 16, 34, 36, 37] m m115 := rkm15.trans ((sp_rk.of1 (k := 12) hn115 hVm15.r (by decide)).mono (by decide))
            refine sp_iload X (pc := 118) (x := (nI j)) dX12_takes_118 rfl ?_
            refine sp_ireturn X (pc := 120) dX12_takes_120 rfl ⟨_, rfl, ?_⟩
            exact ⟨_, _, _, hVm115, Nat.le_refl _, rkm115⟩
          · refine sp_bipush X (pc := 102) (v := (-17)) dX12_takes_102 (by decide) ?_
            refine sp_ireturn X (pc := 104) dX12_takes_104 rfl ⟨_, rfl, ?_⟩
            exact ⟨_, _, _, hVm15, Nat.le_refl _, rkm15⟩
    · refine sp_aload_n X (pc := 60) (r := some (B 0)) dX12_takes_60 rfl rfl ?_
      refine sp_dup X (pc := 61) dX12_takes_61 (sp_cat_rf _) ?_
      refine sp_getfield X (pc := 62) (c := 13) (i := 33) (t := 0) (a := (B 0)) (v := .int (m15.fI 865 (B 0))) rfl hVm15.r.o (by decide) rfl rfl fl_Mo_203 dX12_takes_62 ?_
      refine sp_iload_n X (pc := 65) (x := rl) dX12_takes_65 rfl rfl ?_
      refine sp_if_eq X (pc := 66) (tgt := 73) dX12_takes_66 (by decide) (fun hb66 => ?_) (fun hb66 => ?_)
      · refine sp_iconst X (pc := 73) (v := 0) dX12_takes_73 (by decide) ?_
        refine sp_iadd X (pc := 74) dX12_takes_74 ?_
        refine sp_putI X (pc := 75) (c := 13) (i := 33) (q := 865) (a := (B 0)) rfl hVm15.r.o (by decide) rfl rfl (Or.inl rfl) ⟨rfl, rfl⟩ fl_Mo_203 dX12_takes_75 ?_
        obtain ⟨m75, hm75⟩ : ∃ xm, xm = (m15.pI 865 (B 0) ((m15.fI 865 (B 0)) + 0)) := ⟨_, rfl⟩
        rw [← hm75]
        have hVm75 : sp_V B m0 m75 D R l0 l1 d n b p t e n w15 := by
          rw [hm75]
          exact hVm15.pI (k := 865) _ (by decide)
        have rkm75 : sp_rk B [4, 6, 7, 8, 9, 10, 11, 12, 16, 34, 36, 37] m m75 := by
          rw [hm75]
          exact rkm15
        clear hm75
        refine sp_bipush X (pc := 78) (v := (-20)) dX12_takes_78 (by decide) ?_
        refine sp_ireturn X (pc := 80) dX12_takes_80 rfl ⟨_, rfl, ?_⟩
        exact ⟨_, _, _, hVm75, Nat.le_refl _, rkm75⟩
      · refine sp_iconst X (pc := 69) (v := 1) dX12_takes_69 (by decide) ?_
        refine sp_goto X (pc := 70) (tgt := 74) dX12_takes_70 (by decide) ?_
        refine sp_iadd X (pc := 74) dX12_takes_74 ?_
        refine sp_putI X (pc := 75) (c := 13) (i := 33) (q := 865) (a := (B 0)) rfl hVm15.r.o (by decide) rfl rfl (Or.inl rfl) ⟨rfl, rfl⟩ fl_Mo_203 dX12_takes_75 ?_
        obtain ⟨m75, hm75⟩ : ∃ xm, xm = (m15.pI 865 (B 0) ((m15.fI 865 (B 0)) + 1)) := ⟨_, rfl⟩
        rw [← hm75]
        have hVm75 : sp_V B m0 m75 D R l0 l1 d n b p t e n w15 := by
          rw [hm75]
          exact hVm15.pI (k := 865) _ (by decide)
        have rkm75 : sp_rk B [4, 6, 7, 8, 9, 10, 11, 12, 16, 34, 36, 37] m m75 := by
          rw [hm75]
          exact rkm15
        clear hm75
        refine sp_bipush X (pc := 78) (v := (-20)) dX12_takes_78 (by decide) ?_
        refine sp_ireturn X (pc := 80) dX12_takes_80 rfl ⟨_, rfl, ?_⟩
        exact ⟨_, _, _, hVm75, Nat.le_refl _, rkm75⟩
  · refine sp_iload X (pc := 25) (x := v15) dX12_takes_25 rfl ?_
    refine sp_ireturn X (pc := 27) dX12_takes_27 rfl ⟨_, rfl, ?_⟩
    exact ⟨_, _, _, hVm15, Nat.le_refl _, rkm15⟩
set_option maxRecDepth 20000 in
theorem c_Mo_take (l : Launch) (G : sp_G) (m : sp_M) {B : Nat → Nat} {m0 : sp_M} {D : Nat → Int32} {R : Int32} {l0 l1 : Int64} {d n b p t e ws : Nat} (hVm : sp_V B m0 m D R l0 l1 d n b p t e n ws) {x : Int32} (h4 : 4 ≤ n) : sp_C l G M_Mo_take 0 0 [.ref (B 0), .int x] m (sp_oI fun v m' => ∃ n' b' w', sp_V B m0 m' D R l0 l1 d n' b' p t e n' w' ∧ n ≤ n' ∧ sp_rk B [4, 6, 7, 8, 9, 10, 11, 12, 16, 34, 36, 37] m m') := by
  refine sp_enter (lv0 := [(0, false, va_rf (some (B 0))), (1, false, .int x)]) "SafePathsModel" false rfl (by decide) (fun h => by cases h) (Nat.le_of_ble_eq_true rfl) rfl ?_
  intro w X
  have bd := hVm.hd
  have bn := hVm.hn
  have bb := hVm.hb
  have bp := hVm.hp
  have bt := hVm.ht
  have be := hVm.he
  have bw := hVm.hw
  have bL := hVm.hL
  refine sp_aload_n X (pc := 0) (r := some (B 0)) dX12_take_0 rfl rfl ?_
  refine sp_iload_n X (pc := 1) (x := x) dX12_take_1 rfl rfl ?_
  refine sp_callV X (pc := 2) (mc := 0) (ms := 0) (b := (B 0)) (c := 13) (r := some (B 0)) (As := [.int x]) (rest := []) (c_Mo_isEntry l G _ hVm) ok_Mo_isEntry rfl hVm.r.o (by decide) rfl lk_Mo_230 rfl rfl (Nat.zero_le _) (Nat.le_of_ble_eq_true rfl) (Nat.le_of_ble_eq_true rfl) (Nat.zero_le _) (Nat.zero_le _) dX12_take_2 (sp_kI fun v2 m2 hp2 => ?_)
  obtain ⟨hp2, hp2m⟩ := hp2; replace hp2m := (hp2m).symm; subst hp2m
  refine sp_if_eq X (pc := 5) (tgt := 17) dX12_take_5 (by decide) (fun hb5 => ?_) (fun hb5 => ?_)
  · refine sp_bipush X (pc := 17) (v := (-7)) dX12_take_17 (by decide) ?_
    refine sp_ireturn X (pc := 19) dX12_take_19 rfl ⟨_, rfl, ?_⟩
    first | exact ⟨_, _, _, hVm11, hn11, hr11⟩ | exact ⟨_, _, _, hVm, Nat.le_refl _, sp_rk.refl _ _ _⟩
  · obtain ⟨j, rfl, hj⟩ := hp2.ne hb5
    refine sp_aload_n X (pc := 8) (r := some (B 0)) dX12_take_8 rfl rfl ?_
    refine sp_iload_n X (pc := 9) (x := (nI j)) dX12_take_9 rfl rfl ?_
    refine sp_iconst X (pc := 10) (v := 1) dX12_take_10 (by decide) ?_
    refine sp_callV X (pc := 11) (mc := 0) (ms := 0) (b := (B 0)) (c := 13) (r := some (B 0)) (As := [.int (nI j), .int 1]) (rest := []) (c_Mo_takes l G _ hVm hj h4) ok_Mo_takes rfl hVm.r.o (by decide) rfl lk_Mo_233 rfl rfl (Nat.zero_le _) (Nat.le_of_ble_eq_true rfl) (Nat.le_of_ble_eq_true rfl) (Nat.zero_le _) (Nat.zero_le _) dX12_take_11 (sp_kI fun v11 m11 hp11 => ?_)
    obtain ⟨n11, b11, w11, hVm11, hn11, hr11⟩ := hp11
    refine sp_goto X (pc := 14) (tgt := 19) dX12_take_14 (by decide) ?_
    refine sp_ireturn X (pc := 19) dX12_take_19 rfl ⟨_, rfl, ?_⟩
    first | exact ⟨_, _, _, hVm11, hn11, hr11⟩ | exact ⟨_, _, _, hVm, Nat.le_refl _, sp_rk.refl _ _ _⟩
set_option maxRecDepth 20000 in
theorem c_Mo_dry (l : Launch) (G : sp_G) (m : sp_M) {B : Nat → Nat} {m0 : sp_M} {D : Nat → Int32} {R : Int32} {l0 l1 : Int64} {d n b p t e ws : Nat} (hVm : sp_V B m0 m D R l0 l1 d n b p t e n ws) {x : Int32} (h4 : 4 ≤ n) : sp_C l G M_Mo_dry 0 0 [.ref (B 0), .int x] m (sp_oI fun v m' => ∃ n' b' w', sp_V B m0 m' D R l0 l1 d n' b' p t e n' w' ∧ n ≤ n' ∧ sp_rk B [4, 6, 7, 8, 9, 10, 11, 12, 16, 34, 36, 37] m m') := by
  refine sp_enter (lv0 := [(0, false, va_rf (some (B 0))), (1, false, .int x)]) "SafePathsModel" false rfl (by decide) (fun h => by cases h) (Nat.le_of_ble_eq_true rfl) rfl ?_
  intro w X
  have bd := hVm.hd
  have bn := hVm.hn
  have bb := hVm.hb
  have bp := hVm.hp
  have bt := hVm.ht
  have be := hVm.he
  have bw := hVm.hw
  have bL := hVm.hL
  refine sp_aload_n X (pc := 0) (r := some (B 0)) dX12_dry_0 rfl rfl ?_
  refine sp_iload_n X (pc := 1) (x := x) dX12_dry_1 rfl rfl ?_
  refine sp_callV X (pc := 2) (mc := 0) (ms := 0) (b := (B 0)) (c := 13) (r := some (B 0)) (As := [.int x]) (rest := []) (c_Mo_isEntry l G _ hVm) ok_Mo_isEntry rfl hVm.r.o (by decide) rfl lk_Mo_230 rfl rfl (Nat.zero_le _) (Nat.le_of_ble_eq_true rfl) (Nat.le_of_ble_eq_true rfl) (Nat.zero_le _) (Nat.zero_le _) dX12_dry_2 (sp_kI fun v2 m2 hp2 => ?_)
  obtain ⟨hp2, hp2m⟩ := hp2; replace hp2m := (hp2m).symm; subst hp2m
  refine sp_if_ne X (pc := 5) (tgt := 11) dX12_dry_5 (by decide) (fun hb5 => ?_) (fun hb5 => ?_)
  · obtain ⟨j, rfl, hj⟩ := hp2.ne hb5
    refine sp_aload_n X (pc := 11) (r := some (B 0)) dX12_dry_11 rfl rfl ?_
    refine sp_iload_n X (pc := 12) (x := (nI j)) dX12_dry_12 rfl rfl ?_
    refine sp_iconst X (pc := 13) (v := 0) dX12_dry_13 (by decide) ?_
    refine sp_callV X (pc := 14) (mc := 0) (ms := 0) (b := (B 0)) (c := 13) (r := some (B 0)) (As := [.int (nI j), .int 0]) (rest := []) (c_Mo_takes l G _ hVm hj h4) ok_Mo_takes rfl hVm.r.o (by decide) rfl lk_Mo_233 rfl rfl (Nat.zero_le _) (Nat.le_of_ble_eq_true rfl) (Nat.le_of_ble_eq_true rfl) (Nat.zero_le _) (Nat.zero_le _) dX12_dry_14 (sp_kI fun v14 m14 hp14 => ?_)
    obtain ⟨n14, b14, w14, hVm14, hn14, hr14⟩ := hp14
    refine sp_istore_n X (pc := 17) (lv' := [(2, false, .int v14), (0, false, va_rf (some (B 0))), (1, false, .int (nI j))]) dX12_dry_17 rfl (by decide) rfl ?_
    refine sp_iload_n X (pc := 18) (x := v14) dX12_dry_18 rfl rfl ?_
    refine sp_if_le X (pc := 19) (tgt := 26) dX12_dry_19 (by decide) (fun hb19 => ?_) (fun hb19 => ?_)
    · refine sp_iload_n X (pc := 26) (x := v14) dX12_dry_26 rfl rfl ?_
      refine sp_ireturn X (pc := 27) dX12_dry_27 rfl ⟨_, rfl, ?_⟩
      exact ⟨_, _, _, hVm14, hn14, hr14⟩
    · refine sp_iconst X (pc := 22) (v := 0) dX12_dry_22 (by decide) ?_
      refine sp_goto X (pc := 23) (tgt := 27) dX12_dry_23 (by decide) ?_
      refine sp_ireturn X (pc := 27) dX12_dry_27 rfl ⟨_, rfl, ?_⟩
      exact ⟨_, _, _, hVm14, hn14, hr14⟩
  · refine sp_bipush X (pc := 8) (v := (-7)) dX12_dry_8 (by decide) ?_
    refine sp_ireturn X (pc := 10) dX12_dry_10 rfl ⟨_, rfl, ?_⟩
    exact ⟨_, _, _, hVm, Nat.le_refl _, sp_rk.refl _ _ _⟩
