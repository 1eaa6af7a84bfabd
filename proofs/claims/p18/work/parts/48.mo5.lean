set_option maxHeartbeats 2000000 in
set_option maxRecDepth 20000 in
theorem c_Mo_walk (l : Launch) (G : sp_G) (m : sp_M) {B : Nat → Nat} {m0 : sp_M} {D : Nat → Int32} {R : Int32} {l0 l1 : Int64} {d n b p t e L ws : Nat} {vq vm vl : Int32} {vs : Int64} {vA vE : Nat → Int64} (hVm : sp_V B m0 m D R l0 l1 d n b p t e L ws vq vm vl vs vA vE)  {T : pu_N} {nb0 nt0 : Nat} (hMN : sp_mN m B n L T) (hW : pu_W n nb0 nt0 T) {PT : Nat → List (List Int32)} (hP : sp_mP m B p PT) (hPl : pu_P p PT) {g : Nat} {x : Int32} (hg : g < p) : sp_C l G M_Mo_walk 0 0 [.ref (B 0), .int (nI g), .int x] m (sp_oI fun v m' => (∃ w', sp_V B m0 m' D R l0 l1 d n b p t e L w' vq vm vl vs vA vE ∧ sp_rk B [34] m m') ∧ ∃ r, pu_wk R n T (¬ x = 0) 1 0 (PT g) r ∧ v = r.1 ∧ (v = 0 → ∃ f lk th, r = (0, f, lk, th) ∧ m'.fI 871 (B 0) = nI f ∧ m'.fI 872 (B 0) = nI lk ∧ ((th = none ∧ m'.fI 873 (B 0) = -1) ∨ ∃ j, th = some j ∧ m'.fI 873 (B 0) = nI j))) := by
  refine sp_enter (lv0 := [(0, false, va_rf (some (B 0))), (1, false, .int (nI g)), (2, false, .int x)]) "SafePathsModel" false rfl (by decide) (fun h => by cases h) (Nat.le_of_ble_eq_true rfl) rfl ?_
  intro w X
  have bd := hVm.hd
  have bn := hVm.hn
  have bb := hVm.hb
  have bp := hVm.hp
  have bt := hVm.ht
  have be := hVm.he
  have bw := hVm.hw
  have bL := hVm.hL
  have h4 := hW.1.1
  have lj := hPl g hg
  have hq := (hP g hg).1
  refine sp_iconst X (pc := 0) (v := 1) dX12_walk_0 (by decide) ?_
  refine sp_istore_n X (pc := 1) (lv' := [(3, false, .int 1), (0, false, va_rf (some (B 0))), (1, false, .int (nI g)), (2, false, .int x)]) dX12_walk_1 rfl (by decide) rfl ?_
  refine sp_aload_n X (pc := 2) (r := some (B 0)) dX12_walk_2 rfl rfl ?_
  refine sp_iconst X (pc := 3) (v := 0) dX12_walk_3 (by decide) ?_
  refine sp_putI X (pc := 4) (c := 13) (i := 40) (q := 872) (a := (B 0)) rfl hVm.r.o (by decide) rfl rfl (Or.inl rfl) ⟨rfl, rfl⟩ fl_Mo_186 dX12_walk_4 ?_
  obtain ⟨m4, hm4⟩ : ∃ xm, xm = (m.pI 872 (B 0) 0) := ⟨_, rfl⟩
  rw [← hm4]
  have hVm4 : sp_V B m0 m4 D R l0 l1 d n b p t e L ws vq vm vl vs vA vE := by
    rw [hm4]
    exact hVm.pI (k := 872) _ (by decide)
  have l4 : m4.fI 872 (B 0) = nI 0 := by
    rw [hm4]
    rw [sp_pI_fI, if_pos ⟨rfl, rfl⟩]; rfl
  have r4 : sp_rk B [34] m m4 := by
    rw [hm4]
    exact sp_rk.refl _ _ _
  clear hm4
  refine sp_iconst X (pc := 7) (v := 0) dX12_walk_7 (by decide) ?_
  refine sp_istore X (pc := 8) (lv' := [(4, false, .int 0), (3, false, .int 1), (0, false, va_rf (some (B 0))), (1, false, .int (nI g)), (2, false, .int x)]) dX12_walk_8  (by decide) rfl ?_
  have loop10 : ∀ (dz : Nat) (f k lk w1 : Nat) (m1 : sp_M), f < n → k ≤ (PT g).length → lk ≤ k → sp_V B m0 m1 D R l0 l1 d n b p t e L w1 vq vm vl vs vA vE → sp_rk B [34] m m1 → m1.fI 872 (B 0) = nI lk → ((k < (PT g).length → ∀ r, pu_wk R n T (¬ x = 0) f lk ((PT g).drop k) r → pu_wk R n T (¬ x = 0) 1 0 (PT g) r) ∧ (k = (PT g).length → ∃ th, pu_wk R n T (¬ x = 0) 1 0 (PT g) (0, f, lk, th) ∧ ((th = none ∧ m1.fI 873 (B 0) = -1) ∨ ∃ j, th = some j ∧ m1.fI 873 (B 0) = nI j))) → (PT g).length - k = dz → w 0 0 m1 10 [(0, false, va_rf (some (B 0))), (1, false, .int (nI g)), (2, false, .int x), (3, false, .int (nI f)), (4, false, .int (nI k))] [] := by
    intro dz
    induction dz using Nat.strongRecOn with
    | ind dz ih =>
      intro f k lk w1 m1 hf hk hlk2 hVm1 hr1 hlk hWK hdz
      refine sp_iload X (pc := 10) (x := nI k) dX12_walk_10 rfl ?_
      refine sp_aload_n X (pc := 12) (r := some (B 0)) dX12_walk_12 rfl rfl ?_
      refine sp_getfield X (pc := 13) (c := 13) (i := 18) (t := 2) (a := (B 0)) (v := va_rf (some (B 18))) rfl hVm1.r.o (by decide) rfl (congrArg va_rf hVm1.f18) fl_Mo_48 dX12_walk_13 ?_
      refine sp_iload_n X (pc := 16) (x := nI g) dX12_walk_16 rfl rfl ?_
      refine sp_iaload X (pc := 17) (a := (B 18)) rfl (Or.inl hVm1.y18) (sp_in g hVm1.l18 (by omega) (by decide)) dX12_walk_17 ?_
      rw [show (m1.aI (B 18) (nI g).toNatClampNeg) = (m1.aI (B 18) g) from (congrArg _ (nI_clamp (n := g) (by omega)))]
      rw [show (m1.aI (B 18) g) = (nI (PT g).length) from ((congrFun (hr1 18 (by decide) (by decide)) g).trans hq)]
      refine sp_icmp_ge X (pc := 18) (tgt := 187) dX12_walk_18 (by decide) (fun hb18 => ?_) (fun hb18 => ?_)
      · have hkq : k = (PT g).length := by
          have := sp_nge hb18 (by omega) (by omega)
          omega
        refine sp_aload_n X (pc := 187) (r := some (B 0)) dX12_walk_187 rfl rfl ?_
        refine sp_iload_n X (pc := 188) (x := nI f) dX12_walk_188 rfl rfl ?_
        refine sp_putI X (pc := 189) (c := 13) (i := 39) (q := 871) (a := (B 0)) rfl hVm1.r.o (by decide) rfl rfl (Or.inl rfl) ⟨rfl, rfl⟩ fl_Mo_196 dX12_walk_189 ?_
        obtain ⟨m189, hm189⟩ : ∃ xm, xm = (m1.pI 871 (B 0) (nI f)) := ⟨_, rfl⟩
        rw [← hm189]
        have hVm189 : sp_V B m0 m189 D R l0 l1 d n b p t e L w1 vq vm vl vs vA vE := by
          rw [hm189]
          exact hVm1.pI (k := 871) _ (by decide)
        have f189 : m189.fI 871 (B 0) = nI f := by
          rw [hm189]
          rw [sp_pI_fI, if_pos ⟨rfl, rfl⟩]
        have l189 : m189.fI 872 (B 0) = nI lk := by
          rw [hm189]
          rw [sp_pI_fI, if_neg (by omega)]; exact hlk
        have th189 : ∀ th, ((th = none ∧ m1.fI 873 (B 0) = -1) ∨ ∃ j, th = some j ∧ m1.fI 873 (B 0) = nI j) → ((th = none ∧ m189.fI 873 (B 0) = -1) ∨ ∃ j, th = some j ∧ m189.fI 873 (B 0) = nI j) := by
          rw [hm189]
          intro th z
          rw [sp_pI_fI, if_neg (by omega)]; exact z
        have r189 : sp_rk B [34] m m189 := by
          rw [hm189]
          exact hr1
        clear hm189
        refine sp_iconst X (pc := 192) (v := 0) dX12_walk_192 (by decide) ?_
        refine sp_ireturn X (pc := 193) dX12_walk_193 rfl ⟨_, rfl, ?_⟩
        obtain ⟨th, z1, z2⟩ := hWK.2 hkq
        exact ⟨⟨_, hVm189, r189⟩, _, z1, rfl, fun _ => ⟨f, lk, th, rfl, f189, l189, th189 th z2⟩⟩
      · have hkq : k < (PT g).length := sp_nlt hb18 (by omega)
        have hdr : (PT g).drop k = (PT g).getD k [] :: (PT g).drop (k + 1) := by
          rw [List.getD_eq_getElem?_getD, List.getElem?_eq_getElem hkq]
          exact List.drop_eq_getElem_cons hkq
        have lk9 := lj.2.2 k hkq
        have cut39 : ∀ (la : Int32), sp_bo la (k + 1 = (PT g).length) → w 0 0 m1 39 [(0, false, va_rf (some (B 0))), (1, false, .int (nI g)), (2, false, .int x), (3, false, .int (nI f)), (4, false, .int (nI k))] [.int la] := by
          intro la hla9
          refine sp_istore X (pc := 39) (lv' := [(5, false, .int la), (0, false, va_rf (some (B 0))), (1, false, .int (nI g)), (2, false, .int x), (3, false, .int (nI f)), (4, false, .int (nI k))]) dX12_walk_39  (by decide) rfl ?_
          refine sp_aload_n X (pc := 41) (r := some (B 0)) dX12_walk_41 rfl rfl ?_
          refine sp_iload_n X (pc := 42) (x := nI g) dX12_walk_42 rfl rfl ?_
          refine sp_iload X (pc := 43) (x := nI k) dX12_walk_43 rfl ?_
          refine sp_callV X (pc := 45) (mc := 0) (ms := 0) (b := (B 0)) (c := 13) (r := some (B 0)) (As := [.int (nI g), .int (nI k)]) (rest := []) (c_Mo_partWord l G _ hVm1 (hP.rk hr1 (by decide) (by decide) (by decide)) hPl hg hkq) ok_Mo_partWord rfl hVm1.r.o (by decide) rfl lk_Mo_189 rfl rfl (Nat.zero_le _) (Nat.le_of_ble_eq_true rfl) (Nat.le_of_ble_eq_true rfl) (Nat.zero_le _) (Nat.zero_le _) dX12_walk_45 (sp_kV fun m45 hp45 => ?_)
          obtain ⟨hVm45, hwd45, hwu45⟩ := hp45
          have hr45 := hr1.trans (sp_rk.wd hwd45 hVm1.r)
          have hMN45 := hMN.rk hr45 (by decide)
          have hlk45 : m45.fI 872 (B 0) = nI lk := (hwd45.1 872 (by decide)).trans hlk
          have cut94 : ∀ (i : Option Nat) (v : Int32), ((0 < lk ∧ i = none) ∨ (lk = 0 ∧ pu_in R n T f ((PT g).getD k []) i)) → ((i = none ∧ v = -1) ∨ ∃ j, i = some j ∧ v = nI j) → ¬ (∃ j, i = some j ∧ ¬ T.w j = ((PT g).getD k []) ∧ sp_hr R 16 = 0) → w 0 0 m45 94 [(0, false, va_rf (some (B 0))), (1, false, .int (nI g)), (2, false, .int x), (3, false, .int (nI f)), (4, false, .int (nI k)), (5, false, .int la), (6, false, .int v)] [] := by
            intro i v hi1 hiv2 hok
            refine sp_aload_n X (pc := 94) (r := some (B 0)) dX12_walk_94 rfl rfl ?_
            refine sp_iload X (pc := 95) (x := v) dX12_walk_95 rfl ?_
            refine sp_putI X (pc := 97) (c := 13) (i := 41) (q := 873) (a := (B 0)) rfl hVm45.r.o (by decide) rfl rfl (Or.inl rfl) ⟨rfl, rfl⟩ fl_Mo_193 dX12_walk_97 ?_
            obtain ⟨m97, hm97⟩ : ∃ xm, xm = (m45.pI 873 (B 0) v) := ⟨_, rfl⟩
            rw [← hm97]
            have hVm97 : sp_V B m0 m97 D R l0 l1 d n b p t e L (((PT g).getD k []).length) vq vm vl vs vA vE := by
              rw [hm97]
              exact hVm45.pI (k := 873) _ (by decide)
            have l97 : m97.fI 872 (B 0) = nI lk := by
              rw [hm97]
              rw [sp_pI_fI, if_neg (by omega)]; exact hlk45
            have th97 : ((i = none ∧ m97.fI 873 (B 0) = -1) ∨ ∃ j, i = some j ∧ m97.fI 873 (B 0) = nI j) := by
              rw [hm97]
              rw [sp_pI_fI, if_pos ⟨rfl, rfl⟩]
              exact hiv2
            have r97 : sp_rk B [34] m m97 := by
              rw [hm97]
              exact hr45
            clear hm97
            have hMN97 := hMN.rk r97 (by decide)
            refine sp_iload X (pc := 100) (x := la) dX12_walk_100 rfl ?_
            refine sp_if_ne X (pc := 102) (tgt := 181) dX12_walk_102 (by decide) (fun hb102 => ?_) (fun hb102 => ?_)
            · have hlast : k + 1 = (PT g).length := hla9.ne hb102
              refine sp_iinc X (pc := 181) (v := (nI (k + 1))) (lv' := [(4, false, .int (nI (k + 1))), (0, false, va_rf (some (B 0))), (1, false, .int (nI g)), (2, false, .int x), (3, false, .int (nI f)), (5, false, .int la), (6, false, .int v)]) dX12_walk_181 rfl ((sp_i1 k)) (by decide) rfl ?_
              refine sp_goto X (pc := 184) (tgt := 10) dX12_walk_184 (by decide) ?_
              refine sp_pick X [1, 2, 3, 4, 0] (lv' := [(0, false, va_rf (some (B 0))), (1, false, .int (nI g)), (2, false, .int x), (3, false, .int (nI f)), (4, false, .int (nI (k + 1)))]) rfl ?_
              first
                | exact ih _ (by omega) f (k + 1) (lk + 1) _ _ hf (by omega) (by omega) hVm144 r144 l144 ⟨fun _ r z => hWK.1 hkq r (by rw [hdr]; exact (pu_wk.cons hne).mpr ⟨i, hi1, Or.inl ⟨hi0, Or.inr (Or.inr ⟨hb112, fun y => by first | exact hlk0 y.1 | exact y.2 hb131, z⟩)⟩⟩), fun z => absurd z hlast⟩ rfl
                | exact ih _ (by omega) j (k + 1) lk _ _ hj (by omega) (by omega) hVm97 r97 l97 ⟨fun _ r z => hWK.1 hkq r (by rw [hdr]; exact (pu_wk.cons hne).mpr ⟨some j, hi2, Or.inr ⟨j, rfl, Or.inr ⟨hok2, Or.inr (Or.inr ⟨hk0, z⟩)⟩⟩⟩), fun z => absurd z hlast⟩ rfl
                | exact ih _ (by omega) f (k + 1) lk _ _ hf (by omega) (by omega) hVm97 r97 l97 ⟨fun z => by omega, fun _ => ⟨i, hWK.1 hkq _ (by rw [hdr, List.drop_eq_nil_of_le (by omega)]; exact ⟨i, hi1, Or.inr ⟨hok, rfl⟩⟩), th97⟩⟩ rfl
            · have hlast : ¬ k + 1 = (PT g).length := hla9.eq hb102
              have hne : (PT g).drop (k + 1) ≠ [] := fun z => hlast (by have := List.drop_eq_nil_iff.mp z; omega)
              refine sp_iload X (pc := 105) (x := v) dX12_walk_105 rfl ?_
              refine sp_iconst X (pc := 107) (v := (-1)) dX12_walk_107 (by decide) ?_
              refine sp_icmp_ne X (pc := 108) (tgt := 150) dX12_walk_108 (by decide) (fun hb108 => ?_) (fun hb108 => ?_)
              · obtain ⟨j, hij, hvj⟩ : ∃ j, i = some j ∧ v = nI j := by
                  rcases hiv2 with ⟨-, z⟩ | z
                  · exact absurd z hb108
                  · exact z
                subst hvj
                have hin : pu_in R n T f ((PT g).getD k []) (some j) := by
                  rcases hi1 with ⟨-, y⟩ | ⟨-, y⟩
                  · rw [hij] at y; cases y
                  · rw [hij] at y; exact y
                have hj := hin.lt.1
                have hi2 : (0 < lk ∧ some j = none) ∨ (lk = 0 ∧ pu_in R n T f ((PT g).getD k []) (some j)) := by rw [← hij]; exact hi1
                have hok2 : ¬ (¬ T.w j = ((PT g).getD k []) ∧ sp_hr R 16 = 0) := fun z => hok ⟨j, hij, z⟩
                have hlk0 : lk = 0 := by
                  rcases hi2 with ⟨-, y⟩ | ⟨y, -⟩
                  · cases y
                  · exact y
                have n1 := (hMN97.1 j hj).1
                have hk9 := hW.2.2.2.1 j hj
                refine sp_aload_n X (pc := 150) (r := some (B 0)) dX12_walk_150 rfl rfl ?_
                refine sp_getfield X (pc := 151) (c := 13) (i := 4) (t := 2) (a := (B 0)) (v := va_rf (some (B 4))) rfl hVm97.r.o (by decide) rfl (congrArg va_rf hVm97.f4) fl_Mo_13 dX12_walk_151 ?_
                refine sp_iload X (pc := 154) (x := (nI j)) dX12_walk_154 rfl ?_
                refine sp_iaload X (pc := 156) (a := (B 4)) rfl (Or.inl hVm97.y4) (sp_in j hVm97.l4 (by omega) (by decide)) dX12_walk_156 ?_
                rw [show (m97.aI (B 4) (nI j).toNatClampNeg) = (m97.aI (B 4) j) from (congrArg _ (nI_clamp (n := j) (by omega)))]
                rw [show (m97.aI (B 4) j) = (T.k j) from n1]
                refine sp_iconst X (pc := 157) (v := 2) dX12_walk_157 (by decide) ?_
                refine sp_icmp_ne X (pc := 158) (tgt := 164) dX12_walk_158 (by decide) (fun hb158 => ?_) (fun hb158 => ?_)
                · refine sp_aload_n X (pc := 164) (r := some (B 0)) dX12_walk_164 rfl rfl ?_
                  refine sp_getfield X (pc := 165) (c := 13) (i := 4) (t := 2) (a := (B 0)) (v := va_rf (some (B 4))) rfl hVm97.r.o (by decide) rfl (congrArg va_rf hVm97.f4) fl_Mo_13 dX12_walk_165 ?_
                  refine sp_iload X (pc := 168) (x := (nI j)) dX12_walk_168 rfl ?_
                  refine sp_iaload X (pc := 170) (a := (B 4)) rfl (Or.inl hVm97.y4) (sp_in j hVm97.l4 (by omega) (by decide)) dX12_walk_170 ?_
                  rw [show (m97.aI (B 4) (nI j).toNatClampNeg) = (m97.aI (B 4) j) from (congrArg _ (nI_clamp (n := j) (by omega)))]
                  rw [show (m97.aI (B 4) j) = (T.k j) from n1]
                  refine sp_iconst X (pc := 171) (v := 1) dX12_walk_171 (by decide) ?_
                  refine sp_icmp_ne X (pc := 172) (tgt := 178) dX12_walk_172 (by decide) (fun hb172 => ?_) (fun hb172 => ?_)
                  · have hk0 : T.k j = 0 := by
                      rcases hk9 with z | ⟨z, -⟩ | ⟨z, -⟩
                      · exact z
                      · exact absurd z hb172
                      · exact absurd z hb158
                    refine sp_iload X (pc := 178) (x := (nI j)) dX12_walk_178 rfl ?_
                    refine sp_istore_n X (pc := 180) (lv' := [(3, false, .int (nI j)), (0, false, va_rf (some (B 0))), (1, false, .int (nI g)), (2, false, .int x), (4, false, .int (nI k)), (5, false, .int la), (6, false, .int (nI j))]) dX12_walk_180 rfl (by decide) rfl ?_
                    refine sp_iinc X (pc := 181) (v := (nI (k + 1))) (lv' := [(4, false, .int (nI (k + 1))), (3, false, .int (nI j)), (0, false, va_rf (some (B 0))), (1, false, .int (nI g)), (2, false, .int x), (5, false, .int la), (6, false, .int (nI j))]) dX12_walk_181 rfl ((sp_i1 k)) (by decide) rfl ?_
                    refine sp_goto X (pc := 184) (tgt := 10) dX12_walk_184 (by decide) ?_
                    refine sp_pick X [2, 3, 4, 1, 0] (lv' := [(0, false, va_rf (some (B 0))), (1, false, .int (nI g)), (2, false, .int x), (3, false, .int (nI j)), (4, false, .int (nI (k + 1)))]) rfl ?_
                    first
                      | exact ih _ (by omega) f (k + 1) (lk + 1) _ _ hf (by omega) (by omega) hVm144 r144 l144 ⟨fun _ r z => hWK.1 hkq r (by rw [hdr]; exact (pu_wk.cons hne).mpr ⟨i, hi1, Or.inl ⟨hi0, Or.inr (Or.inr ⟨hb112, fun y => by first | exact hlk0 y.1 | exact y.2 hb131, z⟩)⟩⟩), fun z => absurd z hlast⟩ rfl
                      | exact ih _ (by omega) j (k + 1) lk _ _ hj (by omega) (by omega) hVm97 r97 l97 ⟨fun _ r z => hWK.1 hkq r (by rw [hdr]; exact (pu_wk.cons hne).mpr ⟨some j, hi2, Or.inr ⟨j, rfl, Or.inr ⟨hok2, Or.inr (Or.inr ⟨hk0, z⟩)⟩⟩⟩), fun z => absurd z hlast⟩ rfl
                      | exact ih _ (by omega) f (k + 1) lk _ _ hf (by omega) (by omega) hVm97 r97 l97 ⟨fun z => by omega, fun _ => ⟨i, hWK.1 hkq _ (by rw [hdr, List.drop_eq_nil_of_le (by omega)]; exact ⟨i, hi1, Or.inr ⟨hok, rfl⟩⟩), th97⟩⟩ rfl
                  · refine sp_bipush X (pc := 175) (v := (-15)) dX12_walk_175 (by decide) ?_
                    refine sp_ireturn X (pc := 177) dX12_walk_177 rfl ⟨_, rfl, ?_⟩
                    exact ⟨⟨_, hVm97, r97⟩, (-15, 0, 0, none), hWK.1 hkq _ (by rw [hdr]; exact (pu_wk.cons hne).mpr ⟨some j, hi2, Or.inr ⟨j, rfl, Or.inr ⟨hok2, Or.inr (Or.inl ⟨hb172, rfl⟩)⟩⟩⟩), rfl, fun z => absurd z (by decide)⟩
                · refine sp_bipush X (pc := 161) (v := (-14)) dX12_walk_161 (by decide) ?_
                  refine sp_ireturn X (pc := 163) dX12_walk_163 rfl ⟨_, rfl, ?_⟩
                  exact ⟨⟨_, hVm97, r97⟩, (-14, 0, 0, none), hWK.1 hkq _ (by rw [hdr]; exact (pu_wk.cons hne).mpr ⟨some j, hi2, Or.inr ⟨j, rfl, Or.inr ⟨hok2, Or.inl ⟨hb158, rfl⟩⟩⟩⟩), rfl, fun z => absurd z (by decide)⟩
              · have hi0 : i = none := by
                  rcases hiv2 with ⟨z, -⟩ | ⟨j, y, z⟩
                  · exact z
                  · exfalso
                    rw [z] at hb108
                    refine sp_nn9 (j := j) ?_ hb108
                    rcases hi1 with ⟨-, w9⟩ | ⟨-, w9⟩
                    · rw [y] at w9; cases w9
                    · rw [y] at w9; have := w9.lt.1; omega
                refine sp_iload_n X (pc := 111) (x := x) dX12_walk_111 rfl rfl ?_
                refine sp_if_ne X (pc := 112) (tgt := 118) dX12_walk_112 (by decide) (fun hb112 => ?_) (fun hb112 => ?_)
                · refine sp_aload_n X (pc := 118) (r := some (B 0)) dX12_walk_118 rfl rfl ?_
                  refine sp_getfield X (pc := 119) (c := 13) (i := 40) (t := 0) (a := (B 0)) (v := .int (nI lk)) rfl hVm97.r.o (by decide) rfl (congrArg Value.int l97) fl_Mo_186 dX12_walk_119 ?_
                  refine sp_if_ne X (pc := 122) (tgt := 137) dX12_walk_122 (by decide) (fun hb122 => ?_) (fun hb122 => ?_)
                  · have hlk0 : ¬ lk = 0 := fun z => hb122 (by rw [z]; rfl)
                    refine sp_aload_n X (pc := 137) (r := some (B 0)) dX12_walk_137 rfl rfl ?_
                    refine sp_dup X (pc := 138) dX12_walk_138 (sp_cat_rf _) ?_
                    refine sp_getfield X (pc := 139) (c := 13) (i := 40) (t := 0) (a := (B 0)) (v := .int (nI lk)) rfl hVm97.r.o (by decide) rfl (congrArg Value.int l97) fl_Mo_186 dX12_walk_139 ?_
                    refine sp_iconst X (pc := 142) (v := 1) dX12_walk_142 (by decide) ?_
                    refine sp_iadd X (pc := 143) dX12_walk_143 ?_
                    rw [show ((nI lk) + 1) = (nI (lk + 1)) from (nI_add lk 1)]
                    refine sp_putI X (pc := 144) (c := 13) (i := 40) (q := 872) (a := (B 0)) rfl hVm97.r.o (by decide) rfl rfl (Or.inl rfl) ⟨rfl, rfl⟩ fl_Mo_186 dX12_walk_144 ?_
                    obtain ⟨m144, hm144⟩ : ∃ xm, xm = (m97.pI 872 (B 0) (nI (lk + 1))) := ⟨_, rfl⟩
                    rw [← hm144]
                    have hVm144 : sp_V B m0 m144 D R l0 l1 d n b p t e L (((PT g).getD k []).length) vq vm vl vs vA vE := by
                      rw [hm144]
                      exact hVm97.pI (k := 872) _ (by decide)
                    have l144 : m144.fI 872 (B 0) = nI (lk + 1) := by
                      rw [hm144]
                      rw [sp_pI_fI, if_pos ⟨rfl, rfl⟩]
                    have r144 : sp_rk B [34] m m144 := by
                      rw [hm144]
                      exact r97
                    clear hm144
                    refine sp_goto X (pc := 147) (tgt := 181) dX12_walk_147 (by decide) ?_
                    refine sp_iinc X (pc := 181) (v := (nI (k + 1))) (lv' := [(4, false, .int (nI (k + 1))), (0, false, va_rf (some (B 0))), (1, false, .int (nI g)), (2, false, .int x), (3, false, .int (nI f)), (5, false, .int la), (6, false, .int v)]) dX12_walk_181 rfl ((sp_i1 k)) (by decide) rfl ?_
                    refine sp_goto X (pc := 184) (tgt := 10) dX12_walk_184 (by decide) ?_
                    refine sp_pick X [1, 2, 3, 4, 0] (lv' := [(0, false, va_rf (some (B 0))), (1, false, .int (nI g)), (2, false, .int x), (3, false, .int (nI f)), (4, false, .int (nI (k + 1)))]) rfl ?_
                    first
                      | exact ih _ (by omega) f (k + 1) (lk + 1) _ _ hf (by omega) (by omega) hVm144 r144 l144 ⟨fun _ r z => hWK.1 hkq r (by rw [hdr]; exact (pu_wk.cons hne).mpr ⟨i, hi1, Or.inl ⟨hi0, Or.inr (Or.inr ⟨hb112, fun y => by first | exact hlk0 y.1 | exact y.2 hb131, z⟩)⟩⟩), fun z => absurd z hlast⟩ rfl
                      | exact ih _ (by omega) j (k + 1) lk _ _ hj (by omega) (by omega) hVm97 r97 l97 ⟨fun _ r z => hWK.1 hkq r (by rw [hdr]; exact (pu_wk.cons hne).mpr ⟨some j, hi2, Or.inr ⟨j, rfl, Or.inr ⟨hok2, Or.inr (Or.inr ⟨hk0, z⟩)⟩⟩⟩), fun z => absurd z hlast⟩ rfl
                      | exact ih _ (by omega) f (k + 1) lk _ _ hf (by omega) (by omega) hVm97 r97 l97 ⟨fun z => by omega, fun _ => ⟨i, hWK.1 hkq _ (by rw [hdr, List.drop_eq_nil_of_le (by omega)]; exact ⟨i, hi1, Or.inr ⟨hok, rfl⟩⟩), th97⟩⟩ rfl
                  · have hlk0 : lk = 0 := sp_neq (b := 0) hb122 (by omega) (by decide)
                    have s9 := (hMN97.1 f hf).2.1
                    refine sp_aload_n X (pc := 125) (r := some (B 0)) dX12_walk_125 rfl rfl ?_
                    refine sp_getfield X (pc := 126) (c := 13) (i := 5) (t := 2) (a := (B 0)) (v := va_rf (some (B 5))) rfl hVm97.r.o (by decide) rfl (congrArg va_rf hVm97.f5) fl_Mo_16 dX12_walk_126 ?_
                    refine sp_iload_n X (pc := 129) (x := nI f) dX12_walk_129 rfl rfl ?_
                    refine sp_baload X (pc := 130) (a := (B 5)) rfl hVm97.y5 (sp_in f hVm97.l5 (by omega) (by decide)) dX12_walk_130 ?_
                    rw [show (m97.aI (B 5) (nI f).toNatClampNeg) = (m97.aI (B 5) f) from (congrArg _ (nI_clamp (n := f) (by omega)))]
                    rw [show (m97.aI (B 5) f) = (T.s f) from s9]
                    refine sp_if_eq X (pc := 131) (tgt := 137) dX12_walk_131 (by decide) (fun hb131 => ?_) (fun hb131 => ?_)
                    · refine sp_aload_n X (pc := 137) (r := some (B 0)) dX12_walk_137 rfl rfl ?_
                      refine sp_dup X (pc := 138) dX12_walk_138 (sp_cat_rf _) ?_
                      refine sp_getfield X (pc := 139) (c := 13) (i := 40) (t := 0) (a := (B 0)) (v := .int (nI lk)) rfl hVm97.r.o (by decide) rfl (congrArg Value.int l97) fl_Mo_186 dX12_walk_139 ?_
                      refine sp_iconst X (pc := 142) (v := 1) dX12_walk_142 (by decide) ?_
                      refine sp_iadd X (pc := 143) dX12_walk_143 ?_
                      rw [show ((nI lk) + 1) = (nI (lk + 1)) from (nI_add lk 1)]
                      refine sp_putI X (pc := 144) (c := 13) (i := 40) (q := 872) (a := (B 0)) rfl hVm97.r.o (by decide) rfl rfl (Or.inl rfl) ⟨rfl, rfl⟩ fl_Mo_186 dX12_walk_144 ?_
                      obtain ⟨m144, hm144⟩ : ∃ xm, xm = (m97.pI 872 (B 0) (nI (lk + 1))) := ⟨_, rfl⟩
                      rw [← hm144]
                      have hVm144 : sp_V B m0 m144 D R l0 l1 d n b p t e L (((PT g).getD k []).length) vq vm vl vs vA vE := by
                        rw [hm144]
                        exact hVm97.pI (k := 872) _ (by decide)
                      have l144 : m144.fI 872 (B 0) = nI (lk + 1) := by
                        rw [hm144]
                        rw [sp_pI_fI, if_pos ⟨rfl, rfl⟩]
                      have r144 : sp_rk B [34] m m144 := by
                        rw [hm144]
                        exact r97
                      clear hm144
                      refine sp_goto X (pc := 147) (tgt := 181) dX12_walk_147 (by decide) ?_
                      refine sp_iinc X (pc := 181) (v := (nI (k + 1))) (lv' := [(4, false, .int (nI (k + 1))), (0, false, va_rf (some (B 0))), (1, false, .int (nI g)), (2, false, .int x), (3, false, .int (nI f)), (5, false, .int la), (6, false, .int v)]) dX12_walk_181 rfl ((sp_i1 k)) (by decide) rfl ?_
                      refine sp_goto X (pc := 184) (tgt := 10) dX12_walk_184 (by decide) ?_
                      refine sp_pick X [1, 2, 3, 4, 0] (lv' := [(0, false, va_rf (some (B 0))), (1, false, .int (nI g)), (2, false, .int x), (3, false, .int (nI f)), (4, false, .int (nI (k + 1)))]) rfl ?_
                      first
                        | exact ih _ (by omega) f (k + 1) (lk + 1) _ _ hf (by omega) (by omega) hVm144 r144 l144 ⟨fun _ r z => hWK.1 hkq r (by rw [hdr]; exact (pu_wk.cons hne).mpr ⟨i, hi1, Or.inl ⟨hi0, Or.inr (Or.inr ⟨hb112, fun y => by first | exact hlk0 y.1 | exact y.2 hb131, z⟩)⟩⟩), fun z => absurd z hlast⟩ rfl
                        | exact ih _ (by omega) j (k + 1) lk _ _ hj (by omega) (by omega) hVm97 r97 l97 ⟨fun _ r z => hWK.1 hkq r (by rw [hdr]; exact (pu_wk.cons hne).mpr ⟨some j, hi2, Or.inr ⟨j, rfl, Or.inr ⟨hok2, Or.inr (Or.inr ⟨hk0, z⟩)⟩⟩⟩), fun z => absurd z hlast⟩ rfl
                        | exact ih _ (by omega) f (k + 1) lk _ _ hf (by omega) (by omega) hVm97 r97 l97 ⟨fun z => by omega, fun _ => ⟨i, hWK.1 hkq _ (by rw [hdr, List.drop_eq_nil_of_le (by omega)]; exact ⟨i, hi1, Or.inr ⟨hok, rfl⟩⟩), th97⟩⟩ rfl
                    · refine sp_bipush X (pc := 134) (v := (-16)) dX12_walk_134 (by decide) ?_
                      refine sp_ireturn X (pc := 136) dX12_walk_136 rfl ⟨_, rfl, ?_⟩
                      exact ⟨⟨_, hVm97, r97⟩, (-16, 0, 0, none), hWK.1 hkq _ (by rw [hdr]; exact (pu_wk.cons hne).mpr ⟨i, hi1, Or.inl ⟨hi0, Or.inr (Or.inl ⟨hb112, hlk0, hb131, rfl⟩)⟩⟩), rfl, fun z => absurd z (by decide)⟩
                · refine sp_bipush X (pc := 115) (v := (-13)) dX12_walk_115 (by decide) ?_
                  refine sp_ireturn X (pc := 117) dX12_walk_117 rfl ⟨_, rfl, ?_⟩
                  exact ⟨⟨_, hVm97, r97⟩, (-13, 0, 0, none), hWK.1 hkq _ (by rw [hdr]; exact (pu_wk.cons hne).mpr ⟨i, hi1, Or.inl ⟨hi0, Or.inl ⟨fun z => z hb112, rfl⟩⟩⟩), rfl, fun z => absurd z (by decide)⟩
          have cut64 : ∀ (i : Option Nat) (v : Int32), ((0 < lk ∧ i = none) ∨ (lk = 0 ∧ pu_in R n T f ((PT g).getD k []) i)) → ((i = none ∧ v = -1) ∨ ∃ j, i = some j ∧ v = nI j) → w 0 0 m45 64 [(0, false, va_rf (some (B 0))), (1, false, .int (nI g)), (2, false, .int x), (3, false, .int (nI f)), (4, false, .int (nI k)), (5, false, .int la)] [.int v] := by
            intro i v hi1 hiv
            refine sp_istore X (pc := 64) (lv' := [(6, false, .int v), (0, false, va_rf (some (B 0))), (1, false, .int (nI g)), (2, false, .int x), (3, false, .int (nI f)), (4, false, .int (nI k)), (5, false, .int la)]) dX12_walk_64  (by decide) rfl ?_
            refine sp_iload X (pc := 66) (x := v) dX12_walk_66 rfl ?_
            refine sp_iconst X (pc := 68) (v := (-1)) dX12_walk_68 (by decide) ?_
            refine sp_icmp_eq X (pc := 69) (tgt := 94) dX12_walk_69 (by decide) (fun hb69 => ?_) (fun hb69 => ?_)
            · have hi0 : i = none := by
                rcases hiv with ⟨z, -⟩ | ⟨j, y, z⟩
                · exact z
                · exfalso
                  rw [z] at hb69
                  refine sp_nn9 (j := j) ?_ hb69
                  rcases hi1 with ⟨-, w9⟩ | ⟨-, w9⟩
                  · rw [y] at w9; cases w9
                  · rw [y] at w9; have := w9.lt.1; omega
              have hok : ¬ (∃ j, i = some j ∧ ¬ T.w j = ((PT g).getD k []) ∧ sp_hr R 16 = 0) := fun ⟨j, z, _⟩ => by rw [hi0] at z; cases z
              refine sp_pick X [1, 2, 3, 4, 5, 6, 0] (lv' := [(0, false, va_rf (some (B 0))), (1, false, .int (nI g)), (2, false, .int x), (3, false, .int (nI f)), (4, false, .int (nI k)), (5, false, .int la), (6, false, .int v)]) rfl ?_
              first | exact cut94 i _ hi1 hiv hok | exact cut94 i _ hi1 (Or.inr ⟨j, hij, rfl⟩) hok
            · obtain ⟨j, hij, hvj⟩ : ∃ j, i = some j ∧ v = nI j := by
                rcases hiv with ⟨-, z⟩ | z
                · exact absurd z hb69
                · exact z
              subst hvj
              have hin : pu_in R n T f ((PT g).getD k []) (some j) := by
                rcases hi1 with ⟨-, y⟩ | ⟨-, y⟩
                · rw [hij] at y; cases y
                · rw [hij] at y; exact y
              have hj := hin.lt.1
              have hi2 : (0 < lk ∧ some j = none) ∨ (lk = 0 ∧ pu_in R n T f ((PT g).getD k []) (some j)) := by rw [← hij]; exact hi1
              obtain ⟨n1, n2, n3, n4, n5, n6, n7⟩ := hMN45.1 j hj
              have h16 : (T.w j).length ≤ 16 := by
                rcases Nat.eq_zero_or_pos j with q | q
                · rw [q, hW.2.2.2.2.1]; decide
                · exact (hW.2.2.2.2.2.1 j q hj).2
              refine sp_aload_n X (pc := 72) (r := some (B 0)) dX12_walk_72 rfl rfl ?_
              refine sp_iload X (pc := 73) (x := (nI j)) dX12_walk_73 rfl ?_
              refine sp_iconst X (pc := 75) (v := 1) dX12_walk_75 (by decide) ?_
              refine sp_callV X (pc := 76) (mc := 0) (ms := 0) (b := (B 0)) (c := 13) (r := some (B 0)) (As := [.int (nI j), .int 1]) (rest := []) (c_Mo_isNamed l G _ hVm45 (u9 := T.w j) hj n6 h16 n7) ok_Mo_isNamed rfl hVm45.r.o (by decide) rfl lk_Mo_155 rfl rfl (Nat.zero_le _) (Nat.le_of_ble_eq_true rfl) (Nat.le_of_ble_eq_true rfl) (Nat.zero_le _) (Nat.zero_le _) dX12_walk_76 (sp_kI fun v76 m76 hp76 => ?_)
              obtain ⟨hp76, hp76m⟩ := hp76; replace hp76m := (hp76m).symm; subst hp76m
              rw [propext sp_named1, hwu45] at hp76
              refine sp_if_ne X (pc := 79) (tgt := 94) dX12_walk_79 (by decide) (fun hb79 => ?_) (fun hb79 => ?_)
              · have hok : ¬ (∃ j, i = some j ∧ ¬ T.w j = ((PT g).getD k []) ∧ sp_hr R 16 = 0) := fun ⟨j2, z, z2, _⟩ => by
                  rw [hij] at z
                  cases z
                  exact z2 (hp76.ne hb79)
                refine sp_pick X [1, 2, 3, 4, 5, 6, 0] (lv' := [(0, false, va_rf (some (B 0))), (1, false, .int (nI g)), (2, false, .int x), (3, false, .int (nI f)), (4, false, .int (nI k)), (5, false, .int la), (6, false, .int (nI j))]) rfl ?_
                first | exact cut94 i _ hi1 hiv hok | exact cut94 i _ hi1 (Or.inr ⟨j, hij, rfl⟩) hok
              · refine sp_aload_n X (pc := 82) (r := some (B 0)) dX12_walk_82 rfl rfl ?_
                refine sp_bipush X (pc := 83) (v := 16) dX12_walk_83 (by decide) ?_
                refine sp_callV X (pc := 85) (mc := 0) (ms := 0) (b := (B 0)) (c := 13) (r := some (B 0)) (As := [.int 16]) (rest := []) (c_Mo_hasRule l G _ hVm45) ok_Mo_hasRule rfl hVm45.r.o (by decide) rfl lk_Mo_118 rfl rfl (Nat.zero_le _) (Nat.le_of_ble_eq_true rfl) (Nat.le_of_ble_eq_true rfl) (Nat.zero_le _) (Nat.zero_le _) dX12_walk_85 (sp_kI fun v85 m85 hp85 => ?_)
                obtain ⟨hp85v, hp85⟩ := hp85; replace hp85 := (hp85).symm; subst hp85; replace hp85v := (hp85v).symm; subst hp85v
                refine sp_if_ne X (pc := 88) (tgt := 94) dX12_walk_88 (by decide) (fun hb88 => ?_) (fun hb88 => ?_)
                · have hok : ¬ (∃ j, i = some j ∧ ¬ T.w j = ((PT g).getD k []) ∧ sp_hr R 16 = 0) := fun ⟨j2, z, _, z3⟩ => hb88 z3
                  refine sp_pick X [1, 2, 3, 4, 5, 6, 0] (lv' := [(0, false, va_rf (some (B 0))), (1, false, .int (nI g)), (2, false, .int x), (3, false, .int (nI f)), (4, false, .int (nI k)), (5, false, .int la), (6, false, .int (nI j))]) rfl ?_
                  first | exact cut94 i _ hi1 hiv hok | exact cut94 i _ hi1 (Or.inr ⟨j, hij, rfl⟩) hok
                · refine sp_bipush X (pc := 91) (v := (-12)) dX12_walk_91 (by decide) ?_
                  refine sp_ireturn X (pc := 93) dX12_walk_93 rfl ⟨_, rfl, ?_⟩
                  exact ⟨⟨_, hVm45, hr45⟩, (-12, 0, 0, none), hWK.1 hkq _ (by rw [hdr]; exact pu_wk.m12 hi2 (hp76.eq hb79) hb88 rfl), rfl, fun z => absurd z (by decide)⟩
          refine sp_aload_n X (pc := 48) (r := some (B 0)) dX12_walk_48 rfl rfl ?_
          refine sp_getfield X (pc := 49) (c := 13) (i := 40) (t := 0) (a := (B 0)) (v := .int (nI lk)) rfl hVm45.r.o (by decide) rfl (congrArg Value.int hlk45) fl_Mo_186 dX12_walk_49 ?_
          refine sp_if_le X (pc := 52) (tgt := 59) dX12_walk_52 (by decide) (fun hb52 => ?_) (fun hb52 => ?_)
          · have hlk0 : lk = 0 := by
              have := sp_nge (b := lk) (a := 0) hb52 (by omega) (by omega)
              omega
            refine sp_aload_n X (pc := 59) (r := some (B 0)) dX12_walk_59 rfl rfl ?_
            refine sp_iload_n X (pc := 60) (x := nI f) dX12_walk_60 rfl rfl ?_
            refine sp_callV X (pc := 61) (mc := 0) (ms := 0) (b := (B 0)) (c := 13) (r := some (B 0)) (As := [.int (nI f)]) (rest := []) (c_Mo_in l G _ hVm45 hMN45 hW hf lk9.1) ok_Mo_in rfl hVm45.r.o (by decide) rfl lk_Mo_171 rfl rfl (Nat.zero_le _) (Nat.le_of_ble_eq_true rfl) (Nat.le_of_ble_eq_true rfl) (Nat.zero_le _) (Nat.zero_le _) dX12_walk_61 (sp_kI fun v61 m61 hp61 => ?_)
            obtain ⟨hp61, hp61m⟩ := hp61; replace hp61m := (hp61m).symm; subst hp61m
            rw [hwu45] at hp61
            obtain ⟨o9, ho9, hv61⟩ := hp61
            refine sp_pick X [1, 2, 3, 4, 5, 0] (lv' := [(0, false, va_rf (some (B 0))), (1, false, .int (nI g)), (2, false, .int x), (3, false, .int (nI f)), (4, false, .int (nI k)), (5, false, .int la)]) rfl ?_
            first | exact cut64 none _ (Or.inl ⟨hlk0, rfl⟩) (Or.inl ⟨rfl, rfl⟩) | exact cut64 o9 _ (Or.inr ⟨hlk0, ho9⟩) hv61
          · have hlk0 : 0 < lk := sp_nlt (b := lk) (a := 0) hb52 (by omega)
            refine sp_iconst X (pc := 55) (v := (-1)) dX12_walk_55 (by decide) ?_
            refine sp_goto X (pc := 56) (tgt := 64) dX12_walk_56 (by decide) ?_
            refine sp_pick X [1, 2, 3, 4, 5, 0] (lv' := [(0, false, va_rf (some (B 0))), (1, false, .int (nI g)), (2, false, .int x), (3, false, .int (nI f)), (4, false, .int (nI k)), (5, false, .int la)]) rfl ?_
            first | exact cut64 none _ (Or.inl ⟨hlk0, rfl⟩) (Or.inl ⟨rfl, rfl⟩) | exact cut64 o9 _ (Or.inr ⟨hlk0, ho9⟩) hv61
        refine sp_iload X (pc := 21) (x := nI k) dX12_walk_21 rfl ?_
        refine sp_aload_n X (pc := 23) (r := some (B 0)) dX12_walk_23 rfl rfl ?_
        refine sp_getfield X (pc := 24) (c := 13) (i := 18) (t := 2) (a := (B 0)) (v := va_rf (some (B 18))) rfl hVm1.r.o (by decide) rfl (congrArg va_rf hVm1.f18) fl_Mo_48 dX12_walk_24 ?_
        refine sp_iload_n X (pc := 27) (x := nI g) dX12_walk_27 rfl rfl ?_
        refine sp_iaload X (pc := 28) (a := (B 18)) rfl (Or.inl hVm1.y18) (sp_in g hVm1.l18 (by omega) (by decide)) dX12_walk_28 ?_
        rw [show (m1.aI (B 18) (nI g).toNatClampNeg) = (m1.aI (B 18) g) from (congrArg _ (nI_clamp (n := g) (by omega)))]
        rw [show (m1.aI (B 18) g) = (nI (PT g).length) from ((congrFun (hr1 18 (by decide) (by decide)) g).trans hq)]
        refine sp_iconst X (pc := 29) (v := 1) dX12_walk_29 (by decide) ?_
        refine sp_isub X (pc := 30) dX12_walk_30 ?_
        rw [show ((nI (PT g).length) - 1) = (nI ((PT g).length - 1)) from sp_sub (c := 1) (by omega)]
        refine sp_icmp_ne X (pc := 31) (tgt := 38) dX12_walk_31 (by decide) (fun hb31 => ?_) (fun hb31 => ?_)
        · have hla : ¬ k + 1 = (PT g).length := fun z => hb31 (by congr 1; omega)
          refine sp_iconst X (pc := 38) (v := 0) dX12_walk_38 (by decide) ?_
          first | exact cut39 1 (sp_bo.t hla) | exact cut39 0 (sp_bo.f hla)
        · have hla : k + 1 = (PT g).length := by
            have := sp_neq hb31 (by omega) (by omega)
            omega
          refine sp_iconst X (pc := 34) (v := 1) dX12_walk_34 (by decide) ?_
          refine sp_goto X (pc := 35) (tgt := 39) dX12_walk_35 (by decide) ?_
          first | exact cut39 1 (sp_bo.t hla) | exact cut39 0 (sp_bo.f hla)
  refine sp_pick X [2, 3, 4, 1, 0] (lv' := [(0, false, va_rf (some (B 0))), (1, false, .int (nI g)), (2, false, .int x), (3, false, .int 1), (4, false, .int 0)]) rfl ?_
  exact loop10 _ 1 0 0 _ _ (by omega) (Nat.zero_le _) (Nat.le_refl _) hVm4 r4 l4 ⟨fun _ r z => z, fun z => by omega⟩ rfl
set_option maxRecDepth 20000 in
theorem c_Mo_fileAt (l : Launch) (G : sp_G) (m : sp_M) {B : Nat → Nat} {m0 : sp_M} {D : Nat → Int32} {R : Int32} {l0 l1 : Int64} {d n b p t e L ws : Nat} {vq vm vl : Int32} {vs : Int64} {vA vE : Nat → Int64} (hVm : sp_V B m0 m D R l0 l1 d n b p t e L ws vq vm vl vs vA vE)  {T : pu_N} {nb0 nt0 : Nat} (hMN : sp_mN m B n L T) (hW : pu_W n nb0 nt0 T) {PT : Nat → List (List Int32)} (hP : sp_mP m B p PT) (hPl : pu_P p PT) {g : Nat} (hg : g < p) : sp_C l G M_Mo_fileAt 0 0 [.ref (B 0), .int (nI g)] m (sp_oI fun v m' => (∃ w', sp_V B m0 m' D R l0 l1 d n b p t e L w' vq vm vl vs vA vE ∧ sp_rk B [34] m m') ∧ ∃ o, pu_rc R n T (sp_hr R 16 = 0) 1 (PT g) o ∧ ((¬ (∃ j, o = some j ∧ T.k j = 1) ∧ v = -1) ∨ ∃ j, o = some j ∧ T.k j = 1 ∧ j < n ∧ v = nI j)) := by
  refine sp_enter (lv0 := [(0, false, va_rf (some (B 0))), (1, false, .int (nI g))]) "SafePathsModel" false rfl (by decide) (fun h => by cases h) (Nat.le_of_ble_eq_true rfl) rfl ?_
  intro w X
  have bd := hVm.hd
  have bn := hVm.hn
  have bb := hVm.hb
  have bp := hVm.hp
  have bt := hVm.ht
  have be := hVm.he
  have bw := hVm.hw
  have bL := hVm.hL
  have hk1 : T.k 1 = 0 := hW.2.2.2.2.2.2.2.1.2.1
  have h4 := hW.1.1
  refine sp_aload_n X (pc := 0) (r := some (B 0)) dX12_fileAt_0 rfl rfl ?_
  refine sp_iload_n X (pc := 1) (x := nI g) dX12_fileAt_1 rfl rfl ?_
  refine sp_iconst X (pc := 2) (v := 0) dX12_fileAt_2 (by decide) ?_
  refine sp_callV X (pc := 3) (mc := 0) (ms := 0) (b := (B 0)) (c := 13) (r := some (B 0)) (As := [.int (nI g), .int 0]) (rest := []) (c_Mo_walk l G _ (x := 0) hVm hMN hW hP hPl hg) ok_Mo_walk rfl hVm.r.o (by decide) rfl lk_Mo_199 rfl rfl (Nat.zero_le _) (Nat.le_of_ble_eq_true rfl) (Nat.le_of_ble_eq_true rfl) (Nat.zero_le _) (Nat.zero_le _) dX12_fileAt_3 (sp_kI fun v3 m3 hp3 => ?_)
  obtain ⟨⟨w3, hVm3, hr3⟩, r, hwk, hv3, hc3⟩ := hp3
  obtain ⟨o, ho1, ho2⟩ := pu_wk.rc (fun z => z rfl) hk1 hwk
  have hMN3 := hMN.rk hr3 (by decide)
  refine sp_istore_n X (pc := 6) (lv' := [(2, false, .int v3), (0, false, va_rf (some (B 0))), (1, false, .int (nI g))]) dX12_fileAt_6 rfl (by decide) rfl ?_
  refine sp_iload_n X (pc := 7) (x := v3) dX12_fileAt_7 rfl rfl ?_
  refine sp_if_ne X (pc := 8) (tgt := 39) dX12_fileAt_8 (by decide) (fun hb8 => ?_) (fun hb8 => ?_)
  · have hnf : ¬ (∃ j, o = some j ∧ T.k j = 1) := fun ⟨j, z1, z2⟩ => hb8 (hv3.trans ((ho2 j z2).mp z1).1)
    refine sp_iconst X (pc := 39) (v := (-1)) dX12_fileAt_39 (by decide) ?_
    refine sp_ireturn X (pc := 40) dX12_fileAt_40 rfl ⟨_, rfl, ?_⟩
    first | exact ⟨⟨_, hVm3, hr3⟩, o, ho1, Or.inl ⟨hnf, rfl⟩⟩ | exact ⟨⟨_, hVm3, hr3⟩, o, ho1, Or.inr ⟨j, (ho2 j hb29).mpr ⟨rfl, hthj⟩, hb29, hjn, rfl⟩⟩
  · obtain ⟨f, lk, th, hre, -, -, hth⟩ := hc3 hb8
    subst hre
    have hthn := (pu_wk.fine hW hwk (by omega) (pu_ins.one _)).2.2.2
    refine sp_aload_n X (pc := 11) (r := some (B 0)) dX12_fileAt_11 rfl rfl ?_
    refine sp_getfield X (pc := 12) (c := 13) (i := 41) (t := 0) (a := (B 0)) (v := .int (m3.fI 873 (B 0))) rfl hVm3.r.o (by decide) rfl rfl fl_Mo_193 dX12_fileAt_12 ?_
    refine sp_iconst X (pc := 15) (v := (-1)) dX12_fileAt_15 (by decide) ?_
    refine sp_icmp_eq X (pc := 16) (tgt := 39) dX12_fileAt_16 (by decide) (fun hb16 => ?_) (fun hb16 => ?_)
    · have hth0 : th = none := by
        rcases hth with ⟨z, -⟩ | ⟨j, y, z⟩
        · exact z
        · exfalso
          exact sp_nn9 (by have := (hthn j y).2; omega) (z.symm.trans hb16)
      have hnf : ¬ (∃ j, o = some j ∧ T.k j = 1) := fun ⟨j, z1, z2⟩ => by
        have z3 := ((ho2 j z2).mp z1).2
        have z3 : th = some j := z3
        rw [hth0] at z3
        cases z3
      refine sp_iconst X (pc := 39) (v := (-1)) dX12_fileAt_39 (by decide) ?_
      refine sp_ireturn X (pc := 40) dX12_fileAt_40 rfl ⟨_, rfl, ?_⟩
      first | exact ⟨⟨_, hVm3, hr3⟩, o, ho1, Or.inl ⟨hnf, rfl⟩⟩ | exact ⟨⟨_, hVm3, hr3⟩, o, ho1, Or.inr ⟨j, (ho2 j hb29).mpr ⟨rfl, hthj⟩, hb29, hjn, rfl⟩⟩
    · obtain ⟨j, hthj, hj⟩ : ∃ j, th = some j ∧ m3.fI 873 (B 0) = nI j := by
        rcases hth with ⟨-, z⟩ | z
        · exact absurd z hb16
        · exact z
      have hjn := (hthn j hthj).2
      have n1 := (hMN3.1 j hjn).1
      refine sp_aload_n X (pc := 19) (r := some (B 0)) dX12_fileAt_19 rfl rfl ?_
      refine sp_getfield X (pc := 20) (c := 13) (i := 4) (t := 2) (a := (B 0)) (v := va_rf (some (B 4))) rfl hVm3.r.o (by decide) rfl (congrArg va_rf hVm3.f4) fl_Mo_13 dX12_fileAt_20 ?_
      refine sp_aload_n X (pc := 23) (r := some (B 0)) dX12_fileAt_23 rfl rfl ?_
      refine sp_getfield X (pc := 24) (c := 13) (i := 41) (t := 0) (a := (B 0)) (v := .int (nI j)) rfl hVm3.r.o (by decide) rfl (congrArg Value.int hj) fl_Mo_193 dX12_fileAt_24 ?_
      refine sp_iaload X (pc := 27) (a := (B 4)) rfl (Or.inl hVm3.y4) (sp_in j hVm3.l4 (by omega) (by decide)) dX12_fileAt_27 ?_
      rw [show (m3.aI (B 4) (nI j).toNatClampNeg) = (m3.aI (B 4) j) from (congrArg _ (nI_clamp (n := j) (by omega)))]
      rw [show (m3.aI (B 4) j) = (T.k j) from n1]
      refine sp_iconst X (pc := 28) (v := 1) dX12_fileAt_28 (by decide) ?_
      refine sp_icmp_ne X (pc := 29) (tgt := 39) dX12_fileAt_29 (by decide) (fun hb29 => ?_) (fun hb29 => ?_)
      · have hnf : ¬ (∃ j, o = some j ∧ T.k j = 1) := fun ⟨k, z1, z2⟩ => by
          have z3 : th = some k := ((ho2 k z2).mp z1).2
          rw [hthj] at z3
          cases z3
          exact hb29 z2
        refine sp_iconst X (pc := 39) (v := (-1)) dX12_fileAt_39 (by decide) ?_
        refine sp_ireturn X (pc := 40) dX12_fileAt_40 rfl ⟨_, rfl, ?_⟩
        first | exact ⟨⟨_, hVm3, hr3⟩, o, ho1, Or.inl ⟨hnf, rfl⟩⟩ | exact ⟨⟨_, hVm3, hr3⟩, o, ho1, Or.inr ⟨j, (ho2 j hb29).mpr ⟨rfl, hthj⟩, hb29, hjn, rfl⟩⟩
      · refine sp_aload_n X (pc := 32) (r := some (B 0)) dX12_fileAt_32 rfl rfl ?_
        refine sp_getfield X (pc := 33) (c := 13) (i := 41) (t := 0) (a := (B 0)) (v := .int (nI j)) rfl hVm3.r.o (by decide) rfl (congrArg Value.int hj) fl_Mo_193 dX12_fileAt_33 ?_
        refine sp_goto X (pc := 36) (tgt := 40) dX12_fileAt_36 (by decide) ?_
        refine sp_ireturn X (pc := 40) dX12_fileAt_40 rfl ⟨_, rfl, ?_⟩
        first | exact ⟨⟨_, hVm3, hr3⟩, o, ho1, Or.inl ⟨hnf, rfl⟩⟩ | exact ⟨⟨_, hVm3, hr3⟩, o, ho1, Or.inr ⟨j, (ho2 j hb29).mpr ⟨rfl, hthj⟩, hb29, hjn, rfl⟩⟩

/-- the entries, as the model has them -/
def sp_mE (m : sp_M) (B : Nat → Nat) (e : Nat) (vE : Nat → Int64) (E : pu_E) : Prop := ∀ j, j < e → m.aI (B 25) j = E.K j ∧ m.aI (B 26) j = nI (E.P j) ∧ m.aI (B 27) j = E.W j ∧ vE j = E.S j
theorem sp_mE.rk {B : Nat → Nat} {l : List Nat} {m m' : sp_M} {e : Nat} {vE : Nat → Int64} {E : pu_E} (h : sp_mE m B e vE E) (hr : sp_rk B l m m') (h5 : 25 ∉ l) (h6 : 26 ∉ l) (h7 : 27 ∉ l) : sp_mE m' B e vE E := by
  unfold sp_mE
  rw [hr 25 (by decide) h5, hr 26 (by decide) h6, hr 27 (by decide) h7]
  exact h
theorem pu_go1.E {T : pu_N} {th : Option Nat} : (pu_go1 T th).k = T.k ∧ (pu_go1 T th).s = T.s ∧ (pu_go1 T th).d = T.d ∧ (pu_go1 T th).o = T.o ∧ (pu_go1 T th).h = T.h ∧ (pu_go1 T th).w = T.w ∧ ∀ j, (pu_go1 T th).g j = if th = some j then 1 else T.g j := by
  cases th with
  | none => exact ⟨rfl, rfl, rfl, rfl, rfl, rfl, fun j => by rw [if_neg (by simp)]; rfl⟩
  | some i =>
    refine ⟨rfl, rfl, rfl, rfl, rfl, rfl, fun j => ?_⟩
    show (if j = i then 1 else T.g j) = _
    by_cases q : j = i
    · rw [if_pos q, if_pos (by rw [q])]
    · rw [if_neg q, if_neg (fun z => q (Option.some.inj z).symm)]
theorem sp_mN.fin {m1 m' : sp_M} {B : Nat → Nat} {n1 f1 h : Nat} {T9 : pu_N} {k dd : Int32} {u : List Int32} {th : Option Nat} (hA : ∀ h9, sp_mN m1 B (n1 + 1) n1 (pu_add T9 n1 k 0 f1 h9 u)) (hth : ∀ j, th = some j → j < n1) (h4 : m'.aI (B 4) = m1.aI (B 4)) (h5 : m'.aI (B 5) = m1.aI (B 5)) (h8 : m'.aI (B 8) = m1.aI (B 8)) (h10 : m'.aI (B 10) = m1.aI (B 10)) (h11 : m'.aI (B 11) = m1.aI (B 11)) (h7 : ∀ j, m'.aI (B 7) j = if th = some j then 1 else m1.aI (B 7) j) (h6 : ∀ j, m'.aI (B 6) j = if j = n1 then dd else m1.aI (B 6) j) (h9 : ∀ j, j < n1 → m'.aI (B 9) j = m1.aI (B 9) j) (h9n : ¬ k = 0 → m'.aI (B 9) n1 = nI h) : sp_mN m' B (n1 + 1) (n1 + 1) (pu_add (pu_go1 T9 th) n1 k dd f1 h u) := by
  obtain ⟨a1, a2, a3⟩ := hA 0
  obtain ⟨g1, g2, g3, g4, g5, g6, g7⟩ := pu_go1.E (T := T9) (th := th)
  have N : (pu_add (pu_go1 T9 th) n1 k dd f1 h u).k n1 = k ∧ (pu_add (pu_go1 T9 th) n1 k dd f1 h u).s n1 = 0 ∧ (pu_add (pu_go1 T9 th) n1 k dd f1 h u).d n1 = dd ∧ (pu_add (pu_go1 T9 th) n1 k dd f1 h u).g n1 = 0 ∧ (pu_add (pu_go1 T9 th) n1 k dd f1 h u).o n1 = f1 ∧ (pu_add (pu_go1 T9 th) n1 k dd f1 h u).h n1 = h ∧ (pu_add (pu_go1 T9 th) n1 k dd f1 h u).w n1 = u := ⟨if_pos rfl, if_pos rfl, if_pos rfl, if_pos rfl, if_pos rfl, if_pos rfl, if_pos rfl⟩
  have N0 : (pu_add T9 n1 k 0 f1 0 u).k n1 = k ∧ (pu_add T9 n1 k 0 f1 0 u).s n1 = 0 ∧ (pu_add T9 n1 k 0 f1 0 u).g n1 = 0 ∧ (pu_add T9 n1 k 0 f1 0 u).o n1 = f1 ∧ (pu_add T9 n1 k 0 f1 0 u).w n1 = u := ⟨if_pos rfl, if_pos rfl, if_pos rfl, if_pos rfl, if_pos rfl⟩
  have E : ∀ j, j < n1 → (pu_add (pu_go1 T9 th) n1 k dd f1 h u).k j = T9.k j ∧ (pu_add (pu_go1 T9 th) n1 k dd f1 h u).s j = T9.s j ∧ (pu_add (pu_go1 T9 th) n1 k dd f1 h u).d j = T9.d j ∧ (pu_add (pu_go1 T9 th) n1 k dd f1 h u).g j = (if th = some j then 1 else T9.g j) ∧ (pu_add (pu_go1 T9 th) n1 k dd f1 h u).o j = T9.o j ∧ (pu_add (pu_go1 T9 th) n1 k dd f1 h u).h j = T9.h j ∧ (pu_add (pu_go1 T9 th) n1 k dd f1 h u).w j = T9.w j := fun j hj => ⟨(if_neg (by omega)).trans (congrFun g1 j), (if_neg (by omega)).trans (congrFun g2 j), (if_neg (by omega)).trans (congrFun g3 j), (if_neg (by omega)).trans (g7 j), (if_neg (by omega)).trans (congrFun g4 j), (if_neg (by omega)).trans (congrFun g5 j), (if_neg (by omega)).trans (congrFun g6 j)⟩
  have E0 : ∀ j, j < n1 → (pu_add T9 n1 k 0 f1 0 u).k j = T9.k j ∧ (pu_add T9 n1 k 0 f1 0 u).s j = T9.s j ∧ (pu_add T9 n1 k 0 f1 0 u).d j = T9.d j ∧ (pu_add T9 n1 k 0 f1 0 u).g j = T9.g j ∧ (pu_add T9 n1 k 0 f1 0 u).o j = T9.o j ∧ (pu_add T9 n1 k 0 f1 0 u).h j = T9.h j ∧ (pu_add T9 n1 k 0 f1 0 u).w j = T9.w j := fun j hj => ⟨if_neg (by omega), if_neg (by omega), if_neg (by omega), if_neg (by omega), if_neg (by omega), if_neg (by omega), if_neg (by omega)⟩
  refine ⟨fun j hj => ?_, fun j hj => ?_, fun j hj hk => ?_⟩
  · rw [h4, h5, h8, h10, h11, h6 j, h7 j]
    have z := a1 j hj
    by_cases q : j = n1
    · subst q
      rw [N0.1, N0.2.1, N0.2.2.1, N0.2.2.2.1, N0.2.2.2.2] at z
      rw [N.1, N.2.1, N.2.2.1, N.2.2.2.1, N.2.2.2.2.1, N.2.2.2.2.2.2, if_pos rfl, if_neg (fun w => by have := hth j w; omega)]
      exact ⟨z.1, z.2.1, rfl, z.2.2.2.1, z.2.2.2.2⟩
    · have e := E j (by omega)
      have e0 := E0 j (by omega)
      rw [e0.1, e0.2.1, e0.2.2.1, e0.2.2.2.1, e0.2.2.2.2.1, e0.2.2.2.2.2.2] at z
      rw [e.1, e.2.1, e.2.2.1, e.2.2.2.1, e.2.2.2.2.1, e.2.2.2.2.2.2, if_neg q]
      refine ⟨z.1, z.2.1, z.2.2.1, ?_, z.2.2.2.2⟩
      by_cases w : th = some j
      · rw [if_pos w, if_pos w]
      · rw [if_neg w, if_neg w]; exact z.2.2.2.1
  · have z := a2 j hj
    rw [h5, h6 j, h7 j, if_neg (by omega), if_neg (fun w => by have := hth j w; omega)]
    exact z
  · by_cases q : j = n1
    · subst q
      rw [N.1] at hk
      rw [N.2.2.2.2.2.1]
      exact h9n hk
    · have e := E j (by omega)
      have e0 := E0 j (by omega)
      rw [e.1] at hk
      rw [e.2.2.2.2.2.1, h9 j (by omega)]
      have z := a3 j (by omega) (by rw [e0.1]; exact hk)
      rw [e0.2.2.2.2.2.1] at z
      exact z
theorem sp_mZ.mk {m' : sp_M} {B : Nat → Nat} {Z : pu_Z} {kd va dd vq' vm' : Int32} {sz vs' : Int64} {vA' : Nat → Int64} {us : List (List Int32)} {tg f lk n b n1 f1 b' : Nat} {th sh : Option Nat} {T9 : pu_N} (hZn : n = Z.n) (hZb : b = Z.b) (hPM : pu_many Z.T n f ((us.take (us.length - 1)).drop (us.length - 1 - lk)) = (T9, n1, f1)) (hn1 : n1 = n + lk) (hN : sp_mN m' B (n1 + 1) (n1 + 1) (pu_add (pu_go1 T9 th) n1 (pu_kk kd) dd f1 (pu_hh kd b tg sh) (us.getD (us.length - 1) []))) (hb' : b' = pu_nb kd b) (hB : ∀ j, j < b' → vA' j = (if j = b then sz else Z.S j) ∧ m'.aI (B 16) j = (if j = b then va else Z.V j)) (h12 : ∀ j, j < n1 + 1 → m'.aI (B 12) j = (pu_last (if kd = 0 then Z.q ++ [(n1, if va = 1 then 1 else 0)] else Z.q) j).getD (-1)) (hvq : vq' = nI (if kd = 0 then Z.q ++ [(n1, if va = 1 then (1 : Int32) else 0)] else Z.q).length) (hvm : vm' = nI (n1 + 1 - 4)) (hvs : vs' = if kd = 1 then Z.z + sz else Z.z) : sp_mZ m' B (n1 + 1) b' vq' vm' vs' vA' (pu_out Z kd va sz us tg f lk th none sh dd) := by
  have hnn : pu_nn Z lk none = n1 := by show Z.n + lk = n1; omega
  refine ⟨⟨by show n1 + 1 = Z.n + lk + 1; omega, by rw [hb', hZb]; rfl⟩, ?_, ?_, ?_, ?_, hvm, hvs⟩
  · show sp_mN m' B (n1 + 1) (n1 + 1) (pu_br Z.T Z.n f lk us th (pu_kk kd) dd (pu_hh kd Z.b tg sh))
    unfold pu_br
    rw [← hZn, ← hZb, hPM, ← hn1]
    exact hN
  · intro j hj
    show vA' j = (if j = Z.b then sz else Z.S j) ∧ m'.aI (B 16) j = (if j = Z.b then va else Z.V j)
    rw [← hZb]
    exact hB j hj
  · intro j hj
    show m'.aI (B 12) j = (pu_last (if kd = 0 then Z.q ++ [(pu_nn Z lk none, if va = 1 then 1 else 0)] else Z.q) j).getD (-1)
    rw [hnn]
    exact h12 j hj
  · show vq' = nI (if kd = 0 then Z.q ++ [(pu_nn Z lk none, if va = 1 then (1 : Int32) else 0)] else Z.q).length
    rw [hnn]
    exact hvq
set_option maxHeartbeats 4000000 in
set_option maxRecDepth 20000 in
theorem c_Mo_comes (l : Launch) (G : sp_G) (m : sp_M) {B : Nat → Nat} {m0 : sp_M} {D : Nat → Int32} {R : Int32} {l0 l1 : Int64} {d n b p t e ws : Nat} {vq vm vl : Int32} {vs : Int64} {vA vE : Nat → Int64} (hVm : sp_V B m0 m D R l0 l1 d n b p t e n ws vq vm vl vs vA vE)  {Z : pu_Z} (hMZ : sp_mZ m B n b vq vm vs vA Z) (hZW : pu_ZW t Z) {PT : Nat → List (List Int32)} (hP : sp_mP m B p PT) (hPl : pu_P p PT) {E : pu_E} (hE : sp_mE m B e vE E) (hEW : pu_EW p t e E) {e1 f lk : Nat} {th sh : Option Nat} {thv dd bo : Int32} (he1 : e1 < e) (hf : f < n) (hlk : n + lk + 1 ≤ 200) (hlq : lk < (PT (E.P e1)).length) (hthv : (th = none ∧ thv = -1) ∨ ∃ j, th = some j ∧ thv = nI j) (hth : ∀ j, th = some j → 4 ≤ j ∧ j < n) (hfi : pu_ins Z.T.o f) (hdd : sp_b01 dd) (hdd0 : ¬ E.K e1 = 2 → dd = 0) (hk4 : ¬ E.K e1 = 4) (hsh : E.K e1 = 3 → ∃ q, sh = some q ∧ q < b ∧ bo = nI q) : sp_C l G M_Mo_comes 0 0 [.ref (B 0), .int (nI e1), .int (nI f), .int (nI lk), .int thv, .int dd, .int bo] m (sp_oI fun v m' => v = nI (n + lk) ∧ ∃ n' b' w' vq' vm' vs' vA', sp_V B m0 m' D R l0 l1 d n' b' p t e n' w' vq' vm' vl vs' vA' vE ∧ sp_mZ m' B n' b' vq' vm' vs' vA' (pu_out Z (E.K e1) (E.W e1) (E.S e1) (PT (E.P e1)) (E.X e1) f lk th none sh dd) ∧ sp_rk B [4, 6, 7, 8, 9, 10, 11, 12, 16, 34, 36, 37] m m') := by
  refine sp_enter (lv0 := [(0, false, va_rf (some (B 0))), (1, false, .int (nI e1)), (2, false, .int (nI f)), (3, false, .int (nI lk)), (4, false, .int thv), (5, false, .int dd), (6, false, .int bo)]) "SafePathsModel" false rfl (by decide) (fun h => by cases h) (Nat.le_of_ble_eq_true rfl) rfl ?_
  intro w X
  have bd := hVm.hd
  have bn := hVm.hn
  have bb := hVm.hb
  have bp := hVm.hp
  have bt := hVm.ht
  have be := hVm.he
  have bw := hVm.hw
  have bL := hVm.hL
  have rkm : sp_rk B [4, 6, 7, 8, 9, 10, 11, 12, 16, 34, 36, 37] m m := sp_rk.refl _ _ _
  obtain ⟨⟨hZn, hZb⟩, hMN, hMB, hMQ, hvq, hvm, hvs⟩ := id hMZ
  have hW : pu_W n b t Z.T := by rw [hZn, hZb]; exact hZW.1
  have h4 := hW.1.1
  obtain ⟨hgp, hx2, hx3, hx0, -⟩ := (hEW e1 he1).2
  have hkr := (hEW e1 he1).1
  obtain ⟨c1, c2, c3, c4⟩ := hE e1 he1
  have lj := hPl _ hgp
  have hq := (hP _ hgp).1
  have hq8 := lj.2.1
  have cut128 : ∀ (n1 f1 w1 : Nat) (T9 : pu_N) (mA m1 : sp_M), sp_rk B [4, 6, 7, 8, 9, 10, 11, 12, 16, 34, 36, 37] m m1 → sp_V B m0 m1 D R l0 l1 d (n1 + 1) b p t e n1 w1 vq (nI (n1 + 1 - 4)) vl vs vA vE → n1 = n + lk → f1 < n1 → pu_many Z.T n f (((PT (E.P e1)).take ((PT (E.P e1)).length - 1)).drop ((PT (E.P e1)).length - 1 - lk)) = (T9, n1, f1) → pu_W n1 b t T9 → m1.aI (B 16) = m.aI (B 16) → (∀ h9, sp_mN mA B (n1 + 1) n1 (pu_add T9 n1 (pu_kk (E.K e1)) 0 f1 h9 ((PT (E.P e1)).getD ((PT (E.P e1)).length - 1) []))) → sp_rk B [7] mA m1 → (∀ j, m1.aI (B 7) j = if th = some j then 1 else mA.aI (B 7) j) → (∀ j, m1.aI (B 12) j = if n ≤ j ∧ j < (n1 + 1) then -1 else m.aI (B 12) j) → w 0 0 m1 128 [(0, false, va_rf (some (B 0))), (1, false, .int (nI e1)), (5, false, .int dd), (6, false, .int bo), (10, false, .int (E.K e1)), (11, false, .int (nI n1))] [] := by
    intro n1 f1 w1 T9 mA m1 rkm1 hVm1 hn1e hf1 PM W9 b16 hA rk7 h7m s12
    have c27 : m1.aI (B 27) e1 = E.W e1 := (congrFun (rkm1 27 (by decide) (by decide)) e1).trans c3
    have hMB1 : ∀ j, j < b → vA j = Z.S j ∧ m1.aI (B 16) j = Z.V j := fun j hj => ⟨(hMB j hj).1, (congrFun b16 j).trans (hMB j hj).2⟩
    refine sp_iload X (pc := 128) (x := (E.K e1)) dX12_comes_128 rfl ?_
    refine sp_if_ne X (pc := 130) (tgt := 149) dX12_comes_130 (by decide) (fun hb130 => ?_) (fun hb130 => ?_)
    · refine sp_iload X (pc := 149) (x := (E.K e1)) dX12_comes_149 rfl ?_
      refine sp_iconst X (pc := 151) (v := 1) dX12_comes_151 (by decide) ?_
      refine sp_icmp_ne X (pc := 152) (tgt := 224) dX12_comes_152 (by decide) (fun hb152 => ?_) (fun hb152 => ?_)
      · refine sp_iload X (pc := 224) (x := (E.K e1)) dX12_comes_224 rfl ?_
        refine sp_iconst X (pc := 226) (v := 2) dX12_comes_226 (by decide) ?_
        refine sp_icmp_ne X (pc := 227) (tgt := 255) dX12_comes_227 (by decide) (fun hb227 => ?_) (fun hb227 => ?_)
        · refine sp_aload_n X (pc := 255) (r := some (B 0)) dX12_comes_255 rfl rfl ?_
          refine sp_getfield X (pc := 256) (c := 13) (i := 9) (t := 2) (a := (B 0)) (v := va_rf (some (B 9))) rfl hVm1.r.o (by decide) rfl (congrArg va_rf hVm1.f9) fl_Mo_29 dX12_comes_256 ?_
          refine sp_iload X (pc := 259) (x := nI n1) dX12_comes_259 rfl ?_
          refine sp_iload X (pc := 261) (x := bo) dX12_comes_261 rfl ?_
          refine sp_iastore X (pc := 263) (a := (B 9)) rfl hVm1.y9 (sp_in n1 hVm1.l9 (by omega) (by decide))  dX12_comes_263 ?_
          rw [show (nI n1).toNatClampNeg = n1 from (nI_clamp (n := n1) (by omega))]
          obtain ⟨m263, hm263⟩ : ∃ xm, xm = (m1.sI (B 9) n1 bo) := ⟨_, rfl⟩
          rw [← hm263]
          have hVm263 : sp_V B m0 m263 D R l0 l1 d (n1 + 1) b p t e n1 w1 vq (nI (n1 + 1 - 4)) vl vs vA vE := by
            rw [hm263]
            exact hVm1.sI 9 n1 _ (by decide) (by decide) (Nat.le_refl _)
          have rkm263 : sp_rk B [4, 6, 7, 8, 9, 10, 11, 12, 16, 34, 36, 37] m m263 := by
            rw [hm263]
            exact rkm1.sI hVm1.r 9 _ _ (by decide) (by decide)
          have y4_263 : m263.aI (B 4) = m1.aI (B 4) := by
            rw [hm263]
            funext q
            rw [sp_sI_aI, if_neg (fun z => hVm1.ne 4 9 (by decide) (by decide) (by decide) z.1)]
          have y5_263 : m263.aI (B 5) = m1.aI (B 5) := by
            rw [hm263]
            funext q
            rw [sp_sI_aI, if_neg (fun z => hVm1.ne 5 9 (by decide) (by decide) (by decide) z.1)]
          have y6_263 : m263.aI (B 6) = m1.aI (B 6) := by
            rw [hm263]
            funext q
            rw [sp_sI_aI, if_neg (fun z => hVm1.ne 6 9 (by decide) (by decide) (by decide) z.1)]
          have y7_263 : m263.aI (B 7) = m1.aI (B 7) := by
            rw [hm263]
            funext q
            rw [sp_sI_aI, if_neg (fun z => hVm1.ne 7 9 (by decide) (by decide) (by decide) z.1)]
          have y8_263 : m263.aI (B 8) = m1.aI (B 8) := by
            rw [hm263]
            funext q
            rw [sp_sI_aI, if_neg (fun z => hVm1.ne 8 9 (by decide) (by decide) (by decide) z.1)]
          have y10_263 : m263.aI (B 10) = m1.aI (B 10) := by
            rw [hm263]
            funext q
            rw [sp_sI_aI, if_neg (fun z => hVm1.ne 10 9 (by decide) (by decide) (by decide) z.1)]
          have y11_263 : m263.aI (B 11) = m1.aI (B 11) := by
            rw [hm263]
            funext q
            rw [sp_sI_aI, if_neg (fun z => hVm1.ne 11 9 (by decide) (by decide) (by decide) z.1)]
          have y12_263 : m263.aI (B 12) = m1.aI (B 12) := by
            rw [hm263]
            funext q
            rw [sp_sI_aI, if_neg (fun z => hVm1.ne 12 9 (by decide) (by decide) (by decide) z.1)]
          have y16_263 : m263.aI (B 16) = m1.aI (B 16) := by
            rw [hm263]
            funext q
            rw [sp_sI_aI, if_neg (fun z => hVm1.ne 16 9 (by decide) (by decide) (by decide) z.1)]
          have u9_263 : ∀ j, m263.aI (B 9) j = if j = n1 then bo else m1.aI (B 9) j := by
            rw [hm263]
            intro j
            rw [sp_sI_aI]
            by_cases q : j = n1
            · rw [if_pos ⟨rfl, q⟩, if_pos q]
            · rw [if_neg (fun z => q z.2), if_neg q]
          clear hm263
          refine sp_iload X (pc := 264) (x := nI n1) dX12_comes_264 rfl ?_
          refine sp_ireturn X (pc := 266) dX12_comes_266 rfl ⟨_, rfl, ?_⟩
          first
            | (refine ⟨by rw [hn1e], _, _, _, _, _, _, _, hVm143.tL (fun j q1 q2 q3 => ?_), sp_mZ.mk hZn hZb PM hn1e (sp_mN.fin hA (fun j z => by have := (hth j z).2; omega) ((y143 4 (by decide) (by decide)).trans (rk7 4 (by decide) (by decide))) ((y143 5 (by decide) (by decide)).trans (rk7 5 (by decide) (by decide))) ((y143 8 (by decide) (by decide)).trans (rk7 8 (by decide) (by decide))) ((y143 10 (by decide) (by decide)).trans (rk7 10 (by decide) (by decide))) ((y143 11 (by decide) (by decide)).trans (rk7 11 (by decide) (by decide))) (fun j => by rw [(y143 7 (by decide) (by decide))]; exact h7m j) ((fun j => by
              rw [y143 6 (by decide) (by decide), rk7 6 (by decide) (by decide)]
              by_cases q : j = n1
              · rw [if_pos q, hdd0 (by rw [hb130]; decide), q]
                exact ((hA 0).1 n1 (by omega)).2.2.1.trans (if_pos rfl)
              · rw [if_neg q])) (fun j hj => by rw [y143 9 (by decide) (by decide), rk7 9 (by decide) (by decide)]) (fun z => absurd (by rw [hb130]; exact pu_kk0) z)) (by rw [hb130]; rfl) ((fun j hj => by
              have hj : j < b := hj
              rw [if_neg (by omega), if_neg (by omega), y143 16 (by decide) (by decide)]
              exact hMB1 j hj)) (fun j hj => ?_) (by rw [if_pos hb130, List.length_append, List.length_singleton, hvq]; exact nI_1 _) rfl (by rw [if_neg (by rw [hb130]; decide)]; exact hvs), rkm143⟩
               · obtain rfl : j = n1 := by omega
                 have z := ((hA 0).1 j (by omega)).1.trans (if_pos rfl)
                 rw [y143 4 (by decide) (by decide), rk7 4 (by decide) (by decide), z, hb130, pu_kk0] at q3
                 exact absurd q3 (by decide)
               · rw [if_pos hb130, pu_last.snoc, h12143 j]
                 by_cases q : j = n1
                 · rw [if_pos q, if_pos q]
                   rcases hva with y | y
                   · rw [y, if_neg (by decide)]; rfl
                   · rw [y, if_pos rfl]; rfl
                 · rw [if_neg q, if_neg q, s12 j]
                   by_cases q2 : n ≤ j
                   · rw [if_pos ⟨q2, by omega⟩, pu_last.no hZW.2.1 (by rw [← hZn]; exact q2)]
                     rfl
                   · rw [if_neg (fun z => q2 z.1)]
                     exact hMQ j (by omega))
            | exact ⟨by rw [hn1e], _, _, _, _, _, _, _, hVm251.tL (fun j q1 q2 _ => ⟨E.X e1, by
                obtain rfl : j = n1 := by omega
                rw [u9_251, if_pos rfl], (hx2 hb227).1⟩), sp_mZ.mk hZn hZb PM hn1e (sp_mN.fin hA (fun j z => by have := (hth j z).2; omega) (y4_251.trans (rk7 4 (by decide) (by decide))) (y5_251.trans (rk7 5 (by decide) (by decide))) (y8_251.trans (rk7 8 (by decide) (by decide))) (y10_251.trans (rk7 10 (by decide) (by decide))) (y11_251.trans (rk7 11 (by decide) (by decide))) (fun j => by rw [y7_251]; exact h7m j) (fun j => by rw [u6_251 j, rk7 6 (by decide) (by decide)]) (fun j hj => by rw [u9_251 j, if_neg (by omega), rk7 9 (by decide) (by decide)]) (fun _ => by rw [u9_251, if_pos rfl, hb227, pu_h2])) (by rw [hb227]; rfl) ((fun j hj => by
              have hj : j < b := hj
              rw [if_neg (by omega), if_neg (by omega), y16_251]
              exact hMB1 j hj)) ((fun j hj => by
              rw [if_neg hb130, y12_251, s12 j]
              by_cases q : n ≤ j
              · rw [if_pos ⟨q, by omega⟩, pu_last.no hZW.2.1 (by rw [← hZn]; exact q)]
                rfl
              · rw [if_neg (fun z => q z.1)]
                exact hMQ j (by omega))) (by rw [if_neg hb130]; exact hvq) rfl (by rw [if_neg hb152]; exact hvs), rkm251⟩
            | (have hk3 : E.K e1 = 3 := by
                 rcases hkr with z | z | z | z | z
                 · exact absurd z hb130
                 · exact absurd z hb152
                 · exact absurd z hb227
                 · exact z
                 · exact absurd z hk4
               obtain ⟨q9, hq91, hq92, hq93⟩ := hsh hk3
               exact ⟨by rw [hn1e], _, _, _, _, _, _, _, hVm263.tL (fun j q1 q2 q3 => by
                 obtain rfl : j = n1 := by omega
                 have z := ((hA 0).1 j (by omega)).1.trans (if_pos rfl)
                 rw [y4_263, rk7 4 (by decide) (by decide), z, hk3, pu_kk3] at q3
                 exact absurd q3 (by decide)), sp_mZ.mk hZn hZb PM hn1e (sp_mN.fin hA (fun j z => by have := (hth j z).2; omega) (y4_263.trans (rk7 4 (by decide) (by decide))) (y5_263.trans (rk7 5 (by decide) (by decide))) (y8_263.trans (rk7 8 (by decide) (by decide))) (y10_263.trans (rk7 10 (by decide) (by decide))) (y11_263.trans (rk7 11 (by decide) (by decide))) (fun j => by rw [y7_263]; exact h7m j) ((fun j => by
              rw [y6_263, rk7 6 (by decide) (by decide)]
              by_cases q : j = n1
              · rw [if_pos q, hdd0 hb227, q]
                exact ((hA 0).1 n1 (by omega)).2.2.1.trans (if_pos rfl)
              · rw [if_neg q])) (fun j hj => by rw [u9_263 j, if_neg (by omega), rk7 9 (by decide) (by decide)]) (fun _ => by rw [u9_263, if_pos rfl, hk3, pu_h3, hq91, hq93]; rfl)) (by rw [hk3]; rfl) ((fun j hj => by
              have hj : j < b := hj
              rw [if_neg (by omega), if_neg (by omega), y16_263]
              exact hMB1 j hj)) ((fun j hj => by
              rw [if_neg hb130, y12_263, s12 j]
              by_cases q : n ≤ j
              · rw [if_pos ⟨q, by omega⟩, pu_last.no hZW.2.1 (by rw [← hZn]; exact q)]
                rfl
              · rw [if_neg (fun z => q z.1)]
                exact hMQ j (by omega))) (by rw [if_neg hb130]; exact hvq) rfl (by rw [if_neg hb152]; exact hvs), rkm263⟩)
            | (refine ⟨by rw [hn1e], _, _, _, _, _, _, _, hVm218.tL (fun j q1 q2 q3 => ?_), sp_mZ.mk hZn hZb PM hn1e (sp_mN.fin hA (fun j z => by have := (hth j z).2; omega) (((congrFun a218 (B 4)).trans y4_195).trans (rk7 4 (by decide) (by decide))) (((congrFun a218 (B 5)).trans y5_195).trans (rk7 5 (by decide) (by decide))) (((congrFun a218 (B 8)).trans y8_195).trans (rk7 8 (by decide) (by decide))) (((congrFun a218 (B 10)).trans y10_195).trans (rk7 10 (by decide) (by decide))) (((congrFun a218 (B 11)).trans y11_195).trans (rk7 11 (by decide) (by decide))) (fun j => by rw [((congrFun a218 (B 7)).trans y7_195)]; exact h7m j) ((fun j => by
              rw [a218, y6_195, rk7 6 (by decide) (by decide)]
              by_cases q : j = n1
              · rw [if_pos q, hdd0 (by rw [hb152]; decide), q]
                exact ((hA 0).1 n1 (by omega)).2.2.1.trans (if_pos rfl)
              · rw [if_neg q])) (fun j hj => by rw [a218, u9_195 j, if_neg (by omega), rk7 9 (by decide) (by decide)]) (fun _ => by rw [a218, u9_195, if_pos rfl, hb152, pu_h1])) (by rw [hb152]; rfl) (fun j hj => ?_) ((fun j hj => by
              rw [if_neg hb130, a218, y12_195, s12 j]
              by_cases q : n ≤ j
              · rw [if_pos ⟨q, by omega⟩, pu_last.no hZW.2.1 (by rw [← hZn]; exact q)]
                rfl
              · rw [if_neg (fun z => q z.1)]
                exact hMQ j (by omega))) (by rw [if_neg hb130]; exact hvq) rfl (by rw [if_pos hb152, hvs]), rkm218⟩
               · obtain rfl : j = n1 := by omega
                 have z := ((hA 0).1 j (by omega)).1.trans (if_pos rfl)
                 rw [a218, y4_195, rk7 4 (by decide) (by decide), z, hb152, pu_kk1] at q3
                 exact absurd q3 (by decide)
               · show (if j = b then E.S e1 else vA j) = _ ∧ m218.aI (B 16) j = _
                 rw [a218, u16_195 j]
                 by_cases q : j = b
                 · rw [if_pos q, if_pos q, if_pos q, if_pos q]
                   exact ⟨rfl, rfl⟩
                 · have hj2 : j < b + 1 := hj
                   rw [if_neg q, if_neg q, if_neg q, if_neg q]
                   exact hMB1 j (by omega))
        · refine sp_aload_n X (pc := 230) (r := some (B 0)) dX12_comes_230 rfl rfl ?_
          refine sp_getfield X (pc := 231) (c := 13) (i := 9) (t := 2) (a := (B 0)) (v := va_rf (some (B 9))) rfl hVm1.r.o (by decide) rfl (congrArg va_rf hVm1.f9) fl_Mo_29 dX12_comes_231 ?_
          refine sp_iload X (pc := 234) (x := nI n1) dX12_comes_234 rfl ?_
          refine sp_aload_n X (pc := 236) (r := some (B 0)) dX12_comes_236 rfl rfl ?_
          refine sp_getfield X (pc := 237) (c := 13) (i := 27) (t := 2) (a := (B 0)) (v := va_rf (some (B 27))) rfl hVm1.r.o (by decide) rfl (congrArg va_rf hVm1.f27) fl_Mo_69 dX12_comes_237 ?_
          refine sp_iload_n X (pc := 240) (x := nI e1) dX12_comes_240 rfl rfl ?_
          have hx9 := hx2 hb227
          refine sp_iaload X (pc := 241) (a := (B 27)) rfl (Or.inl hVm1.y27) (sp_in e1 hVm1.l27 (by omega) (by decide)) dX12_comes_241 ?_
          rw [show (m1.aI (B 27) (nI e1).toNatClampNeg) = (m1.aI (B 27) e1) from (congrArg _ (nI_clamp (n := e1) (by omega)))]
          rw [show (m1.aI (B 27) e1) = (nI (E.X e1)) from (c27.trans hx9.2)]
          refine sp_iastore X (pc := 242) (a := (B 9)) rfl hVm1.y9 (sp_in n1 hVm1.l9 (by omega) (by decide))  dX12_comes_242 ?_
          rw [show (nI n1).toNatClampNeg = n1 from (nI_clamp (n := n1) (by omega))]
          obtain ⟨m242, hm242⟩ : ∃ xm, xm = (m1.sI (B 9) n1 (nI (E.X e1))) := ⟨_, rfl⟩
          rw [← hm242]
          have hVm242 : sp_V B m0 m242 D R l0 l1 d (n1 + 1) b p t e n1 w1 vq (nI (n1 + 1 - 4)) vl vs vA vE := by
            rw [hm242]
            exact hVm1.sI 9 n1 _ (by decide) (by decide) (Nat.le_refl _)
          have rkm242 : sp_rk B [4, 6, 7, 8, 9, 10, 11, 12, 16, 34, 36, 37] m m242 := by
            rw [hm242]
            exact rkm1.sI hVm1.r 9 _ _ (by decide) (by decide)
          have y4_242 : m242.aI (B 4) = m1.aI (B 4) := by
            rw [hm242]
            funext q
            rw [sp_sI_aI, if_neg (fun z => hVm1.ne 4 9 (by decide) (by decide) (by decide) z.1)]
          have y5_242 : m242.aI (B 5) = m1.aI (B 5) := by
            rw [hm242]
            funext q
            rw [sp_sI_aI, if_neg (fun z => hVm1.ne 5 9 (by decide) (by decide) (by decide) z.1)]
          have y6_242 : m242.aI (B 6) = m1.aI (B 6) := by
            rw [hm242]
            funext q
            rw [sp_sI_aI, if_neg (fun z => hVm1.ne 6 9 (by decide) (by decide) (by decide) z.1)]
          have y7_242 : m242.aI (B 7) = m1.aI (B 7) := by
            rw [hm242]
            funext q
            rw [sp_sI_aI, if_neg (fun z => hVm1.ne 7 9 (by decide) (by decide) (by decide) z.1)]
          have y8_242 : m242.aI (B 8) = m1.aI (B 8) := by
            rw [hm242]
            funext q
            rw [sp_sI_aI, if_neg (fun z => hVm1.ne 8 9 (by decide) (by decide) (by decide) z.1)]
          have y10_242 : m242.aI (B 10) = m1.aI (B 10) := by
            rw [hm242]
            funext q
            rw [sp_sI_aI, if_neg (fun z => hVm1.ne 10 9 (by decide) (by decide) (by decide) z.1)]
          have y11_242 : m242.aI (B 11) = m1.aI (B 11) := by
            rw [hm242]
            funext q
            rw [sp_sI_aI, if_neg (fun z => hVm1.ne 11 9 (by decide) (by decide) (by decide) z.1)]
          have y12_242 : m242.aI (B 12) = m1.aI (B 12) := by
            rw [hm242]
            funext q
            rw [sp_sI_aI, if_neg (fun z => hVm1.ne 12 9 (by decide) (by decide) (by decide) z.1)]
          have y16_242 : m242.aI (B 16) = m1.aI (B 16) := by
            rw [hm242]
            funext q
            rw [sp_sI_aI, if_neg (fun z => hVm1.ne 16 9 (by decide) (by decide) (by decide) z.1)]
          have u9_242 : ∀ j, m242.aI (B 9) j = if j = n1 then (nI (E.X e1)) else m1.aI (B 9) j := by
            rw [hm242]
            intro j
            rw [sp_sI_aI]
            by_cases q : j = n1
            · rw [if_pos ⟨rfl, q⟩, if_pos q]
            · rw [if_neg (fun z => q z.2), if_neg q]
          clear hm242
          refine sp_aload_n X (pc := 243) (r := some (B 0)) dX12_comes_243 rfl rfl ?_
          refine sp_getfield X (pc := 244) (c := 13) (i := 6) (t := 2) (a := (B 0)) (v := va_rf (some (B 6))) rfl hVm242.r.o (by decide) rfl (congrArg va_rf hVm242.f6) fl_Mo_20 dX12_comes_244 ?_
          refine sp_iload X (pc := 247) (x := nI n1) dX12_comes_247 rfl ?_
          refine sp_iload X (pc := 249) (x := dd) dX12_comes_249 rfl ?_
          refine sp_bastore X (pc := 251) (a := (B 6)) rfl hVm242.y6 (sp_in n1 hVm242.l6 (by omega) (by decide)) hdd.nar dX12_comes_251 ?_
          rw [show (nI n1).toNatClampNeg = n1 from (nI_clamp (n := n1) (by omega))]
          obtain ⟨m251, hm251⟩ : ∃ xm, xm = (m242.sI (B 6) n1 dd) := ⟨_, rfl⟩
          rw [← hm251]
          have hVm251 : sp_V B m0 m251 D R l0 l1 d (n1 + 1) b p t e n1 w1 vq (nI (n1 + 1 - 4)) vl vs vA vE := by
            rw [hm251]
            exact hVm242.sI 6 n1 _ (by decide) (by decide) (Nat.zero_le _)
          have rkm251 : sp_rk B [4, 6, 7, 8, 9, 10, 11, 12, 16, 34, 36, 37] m m251 := by
            rw [hm251]
            exact rkm242.sI hVm242.r 6 _ _ (by decide) (by decide)
          have y4_251 : m251.aI (B 4) = m1.aI (B 4) := by
            rw [hm251]
            funext q
            rw [sp_sI_aI, if_neg (fun z => hVm242.ne 4 6 (by decide) (by decide) (by decide) z.1), y4_242]
          have y5_251 : m251.aI (B 5) = m1.aI (B 5) := by
            rw [hm251]
            funext q
            rw [sp_sI_aI, if_neg (fun z => hVm242.ne 5 6 (by decide) (by decide) (by decide) z.1), y5_242]
          have y7_251 : m251.aI (B 7) = m1.aI (B 7) := by
            rw [hm251]
            funext q
            rw [sp_sI_aI, if_neg (fun z => hVm242.ne 7 6 (by decide) (by decide) (by decide) z.1), y7_242]
          have y8_251 : m251.aI (B 8) = m1.aI (B 8) := by
            rw [hm251]
            funext q
            rw [sp_sI_aI, if_neg (fun z => hVm242.ne 8 6 (by decide) (by decide) (by decide) z.1), y8_242]
          have y10_251 : m251.aI (B 10) = m1.aI (B 10) := by
            rw [hm251]
            funext q
            rw [sp_sI_aI, if_neg (fun z => hVm242.ne 10 6 (by decide) (by decide) (by decide) z.1), y10_242]
          have y11_251 : m251.aI (B 11) = m1.aI (B 11) := by
            rw [hm251]
            funext q
            rw [sp_sI_aI, if_neg (fun z => hVm242.ne 11 6 (by decide) (by decide) (by decide) z.1), y11_242]
          have y12_251 : m251.aI (B 12) = m1.aI (B 12) := by
            rw [hm251]
            funext q
            rw [sp_sI_aI, if_neg (fun z => hVm242.ne 12 6 (by decide) (by decide) (by decide) z.1), y12_242]
          have y16_251 : m251.aI (B 16) = m1.aI (B 16) := by
            rw [hm251]
            funext q
            rw [sp_sI_aI, if_neg (fun z => hVm242.ne 16 6 (by decide) (by decide) (by decide) z.1), y16_242]
          have u9_251 : ∀ j, m251.aI (B 9) j = if j = n1 then (nI (E.X e1)) else m1.aI (B 9) j := by
            rw [hm251]
            intro j
            rw [sp_sI_aI, if_neg (fun z => hVm242.ne 9 6 (by decide) (by decide) (by decide) z.1)]
            exact u9_242 j
          have u6_251 : ∀ j, m251.aI (B 6) j = if j = n1 then dd else m1.aI (B 6) j := by
            rw [hm251]
            intro j
            rw [sp_sI_aI, y6_242]
            by_cases q : j = n1
            · rw [if_pos ⟨rfl, q⟩, if_pos q]
            · rw [if_neg (fun z => q z.2), if_neg q]
          clear hm251
          refine sp_goto X (pc := 252) (tgt := 264) dX12_comes_252 (by decide) ?_
          refine sp_iload X (pc := 264) (x := nI n1) dX12_comes_264 rfl ?_
          refine sp_ireturn X (pc := 266) dX12_comes_266 rfl ⟨_, rfl, ?_⟩
          first
            | (refine ⟨by rw [hn1e], _, _, _, _, _, _, _, hVm143.tL (fun j q1 q2 q3 => ?_), sp_mZ.mk hZn hZb PM hn1e (sp_mN.fin hA (fun j z => by have := (hth j z).2; omega) ((y143 4 (by decide) (by decide)).trans (rk7 4 (by decide) (by decide))) ((y143 5 (by decide) (by decide)).trans (rk7 5 (by decide) (by decide))) ((y143 8 (by decide) (by decide)).trans (rk7 8 (by decide) (by decide))) ((y143 10 (by decide) (by decide)).trans (rk7 10 (by decide) (by decide))) ((y143 11 (by decide) (by decide)).trans (rk7 11 (by decide) (by decide))) (fun j => by rw [(y143 7 (by decide) (by decide))]; exact h7m j) ((fun j => by
              rw [y143 6 (by decide) (by decide), rk7 6 (by decide) (by decide)]
              by_cases q : j = n1
              · rw [if_pos q, hdd0 (by rw [hb130]; decide), q]
                exact ((hA 0).1 n1 (by omega)).2.2.1.trans (if_pos rfl)
              · rw [if_neg q])) (fun j hj => by rw [y143 9 (by decide) (by decide), rk7 9 (by decide) (by decide)]) (fun z => absurd (by rw [hb130]; exact pu_kk0) z)) (by rw [hb130]; rfl) ((fun j hj => by
              have hj : j < b := hj
              rw [if_neg (by omega), if_neg (by omega), y143 16 (by decide) (by decide)]
              exact hMB1 j hj)) (fun j hj => ?_) (by rw [if_pos hb130, List.length_append, List.length_singleton, hvq]; exact nI_1 _) rfl (by rw [if_neg (by rw [hb130]; decide)]; exact hvs), rkm143⟩
               · obtain rfl : j = n1 := by omega
                 have z := ((hA 0).1 j (by omega)).1.trans (if_pos rfl)
                 rw [y143 4 (by decide) (by decide), rk7 4 (by decide) (by decide), z, hb130, pu_kk0] at q3
                 exact absurd q3 (by decide)
               · rw [if_pos hb130, pu_last.snoc, h12143 j]
                 by_cases q : j = n1
                 · rw [if_pos q, if_pos q]
                   rcases hva with y | y
                   · rw [y, if_neg (by decide)]; rfl
                   · rw [y, if_pos rfl]; rfl
                 · rw [if_neg q, if_neg q, s12 j]
                   by_cases q2 : n ≤ j
                   · rw [if_pos ⟨q2, by omega⟩, pu_last.no hZW.2.1 (by rw [← hZn]; exact q2)]
                     rfl
                   · rw [if_neg (fun z => q2 z.1)]
                     exact hMQ j (by omega))
            | exact ⟨by rw [hn1e], _, _, _, _, _, _, _, hVm251.tL (fun j q1 q2 _ => ⟨E.X e1, by
                obtain rfl : j = n1 := by omega
                rw [u9_251, if_pos rfl], (hx2 hb227).1⟩), sp_mZ.mk hZn hZb PM hn1e (sp_mN.fin hA (fun j z => by have := (hth j z).2; omega) (y4_251.trans (rk7 4 (by decide) (by decide))) (y5_251.trans (rk7 5 (by decide) (by decide))) (y8_251.trans (rk7 8 (by decide) (by decide))) (y10_251.trans (rk7 10 (by decide) (by decide))) (y11_251.trans (rk7 11 (by decide) (by decide))) (fun j => by rw [y7_251]; exact h7m j) (fun j => by rw [u6_251 j, rk7 6 (by decide) (by decide)]) (fun j hj => by rw [u9_251 j, if_neg (by omega), rk7 9 (by decide) (by decide)]) (fun _ => by rw [u9_251, if_pos rfl, hb227, pu_h2])) (by rw [hb227]; rfl) ((fun j hj => by
              have hj : j < b := hj
              rw [if_neg (by omega), if_neg (by omega), y16_251]
              exact hMB1 j hj)) ((fun j hj => by
              rw [if_neg hb130, y12_251, s12 j]
              by_cases q : n ≤ j
              · rw [if_pos ⟨q, by omega⟩, pu_last.no hZW.2.1 (by rw [← hZn]; exact q)]
                rfl
              · rw [if_neg (fun z => q z.1)]
                exact hMQ j (by omega))) (by rw [if_neg hb130]; exact hvq) rfl (by rw [if_neg hb152]; exact hvs), rkm251⟩
            | (have hk3 : E.K e1 = 3 := by
                 rcases hkr with z | z | z | z | z
                 · exact absurd z hb130
                 · exact absurd z hb152
                 · exact absurd z hb227
                 · exact z
                 · exact absurd z hk4
               obtain ⟨q9, hq91, hq92, hq93⟩ := hsh hk3
               exact ⟨by rw [hn1e], _, _, _, _, _, _, _, hVm263.tL (fun j q1 q2 q3 => by
                 obtain rfl : j = n1 := by omega
                 have z := ((hA 0).1 j (by omega)).1.trans (if_pos rfl)
                 rw [y4_263, rk7 4 (by decide) (by decide), z, hk3, pu_kk3] at q3
                 exact absurd q3 (by decide)), sp_mZ.mk hZn hZb PM hn1e (sp_mN.fin hA (fun j z => by have := (hth j z).2; omega) (y4_263.trans (rk7 4 (by decide) (by decide))) (y5_263.trans (rk7 5 (by decide) (by decide))) (y8_263.trans (rk7 8 (by decide) (by decide))) (y10_263.trans (rk7 10 (by decide) (by decide))) (y11_263.trans (rk7 11 (by decide) (by decide))) (fun j => by rw [y7_263]; exact h7m j) ((fun j => by
              rw [y6_263, rk7 6 (by decide) (by decide)]
              by_cases q : j = n1
              · rw [if_pos q, hdd0 hb227, q]
                exact ((hA 0).1 n1 (by omega)).2.2.1.trans (if_pos rfl)
              · rw [if_neg q])) (fun j hj => by rw [u9_263 j, if_neg (by omega), rk7 9 (by decide) (by decide)]) (fun _ => by rw [u9_263, if_pos rfl, hk3, pu_h3, hq91, hq93]; rfl)) (by rw [hk3]; rfl) ((fun j hj => by
              have hj : j < b := hj
              rw [if_neg (by omega), if_neg (by omega), y16_263]
              exact hMB1 j hj)) ((fun j hj => by
              rw [if_neg hb130, y12_263, s12 j]
              by_cases q : n ≤ j
              · rw [if_pos ⟨q, by omega⟩, pu_last.no hZW.2.1 (by rw [← hZn]; exact q)]
                rfl
              · rw [if_neg (fun z => q z.1)]
                exact hMQ j (by omega))) (by rw [if_neg hb130]; exact hvq) rfl (by rw [if_neg hb152]; exact hvs), rkm263⟩)
            | (refine ⟨by rw [hn1e], _, _, _, _, _, _, _, hVm218.tL (fun j q1 q2 q3 => ?_), sp_mZ.mk hZn hZb PM hn1e (sp_mN.fin hA (fun j z => by have := (hth j z).2; omega) (((congrFun a218 (B 4)).trans y4_195).trans (rk7 4 (by decide) (by decide))) (((congrFun a218 (B 5)).trans y5_195).trans (rk7 5 (by decide) (by decide))) (((congrFun a218 (B 8)).trans y8_195).trans (rk7 8 (by decide) (by decide))) (((congrFun a218 (B 10)).trans y10_195).trans (rk7 10 (by decide) (by decide))) (((congrFun a218 (B 11)).trans y11_195).trans (rk7 11 (by decide) (by decide))) (fun j => by rw [((congrFun a218 (B 7)).trans y7_195)]; exact h7m j) ((fun j => by
              rw [a218, y6_195, rk7 6 (by decide) (by decide)]
              by_cases q : j = n1
              · rw [if_pos q, hdd0 (by rw [hb152]; decide), q]
                exact ((hA 0).1 n1 (by omega)).2.2.1.trans (if_pos rfl)
              · rw [if_neg q])) (fun j hj => by rw [a218, u9_195 j, if_neg (by omega), rk7 9 (by decide) (by decide)]) (fun _ => by rw [a218, u9_195, if_pos rfl, hb152, pu_h1])) (by rw [hb152]; rfl) (fun j hj => ?_) ((fun j hj => by
              rw [if_neg hb130, a218, y12_195, s12 j]
              by_cases q : n ≤ j
              · rw [if_pos ⟨q, by omega⟩, pu_last.no hZW.2.1 (by rw [← hZn]; exact q)]
                rfl
              · rw [if_neg (fun z => q z.1)]
                exact hMQ j (by omega))) (by rw [if_neg hb130]; exact hvq) rfl (by rw [if_pos hb152, hvs]), rkm218⟩
               · obtain rfl : j = n1 := by omega
                 have z := ((hA 0).1 j (by omega)).1.trans (if_pos rfl)
                 rw [a218, y4_195, rk7 4 (by decide) (by decide), z, hb152, pu_kk1] at q3
                 exact absurd q3 (by decide)
               · show (if j = b then E.S e1 else vA j) = _ ∧ m218.aI (B 16) j = _
                 rw [a218, u16_195 j]
                 by_cases q : j = b
                 · rw [if_pos q, if_pos q, if_pos q, if_pos q]
                   exact ⟨rfl, rfl⟩
                 · have hj2 : j < b + 1 := hj
                   rw [if_neg q, if_neg q, if_neg q, if_neg q]
                   exact hMB1 j (by omega))
      · refine sp_aload_n X (pc := 155) (r := some (B 0)) dX12_comes_155 rfl rfl ?_
        refine sp_getfield X (pc := 156) (c := 13) (i := 9) (t := 2) (a := (B 0)) (v := va_rf (some (B 9))) rfl hVm1.r.o (by decide) rfl (congrArg va_rf hVm1.f9) fl_Mo_29 dX12_comes_156 ?_
        refine sp_iload X (pc := 159) (x := nI n1) dX12_comes_159 rfl ?_
        refine sp_aload_n X (pc := 161) (r := some (B 0)) dX12_comes_161 rfl rfl ?_
        refine sp_getfield X (pc := 162) (c := 13) (i := 14) (t := 0) (a := (B 0)) (v := .int (nI b)) rfl hVm1.r.o (by decide) rfl (congrArg Value.int hVm1.cb) fl_Mo_112 dX12_comes_162 ?_
        refine sp_iastore X (pc := 165) (a := (B 9)) rfl hVm1.y9 (sp_in n1 hVm1.l9 (by omega) (by decide))  dX12_comes_165 ?_
        rw [show (nI n1).toNatClampNeg = n1 from (nI_clamp (n := n1) (by omega))]
        obtain ⟨m165, hm165⟩ : ∃ xm, xm = (m1.sI (B 9) n1 (nI b)) := ⟨_, rfl⟩
        rw [← hm165]
        have hVm165 : sp_V B m0 m165 D R l0 l1 d (n1 + 1) b p t e n1 w1 vq (nI (n1 + 1 - 4)) vl vs vA vE := by
          rw [hm165]
          exact hVm1.sI 9 n1 _ (by decide) (by decide) (Nat.le_refl _)
        have rkm165 : sp_rk B [4, 6, 7, 8, 9, 10, 11, 12, 16, 34, 36, 37] m m165 := by
          rw [hm165]
          exact rkm1.sI hVm1.r 9 _ _ (by decide) (by decide)
        have y4_165 : m165.aI (B 4) = m1.aI (B 4) := by
          rw [hm165]
          funext q
          rw [sp_sI_aI, if_neg (fun z => hVm1.ne 4 9 (by decide) (by decide) (by decide) z.1)]
        have y5_165 : m165.aI (B 5) = m1.aI (B 5) := by
          rw [hm165]
          funext q
          rw [sp_sI_aI, if_neg (fun z => hVm1.ne 5 9 (by decide) (by decide) (by decide) z.1)]
        have y6_165 : m165.aI (B 6) = m1.aI (B 6) := by
          rw [hm165]
          funext q
          rw [sp_sI_aI, if_neg (fun z => hVm1.ne 6 9 (by decide) (by decide) (by decide) z.1)]
        have y7_165 : m165.aI (B 7) = m1.aI (B 7) := by
          rw [hm165]
          funext q
          rw [sp_sI_aI, if_neg (fun z => hVm1.ne 7 9 (by decide) (by decide) (by decide) z.1)]
        have y8_165 : m165.aI (B 8) = m1.aI (B 8) := by
          rw [hm165]
          funext q
          rw [sp_sI_aI, if_neg (fun z => hVm1.ne 8 9 (by decide) (by decide) (by decide) z.1)]
        have y10_165 : m165.aI (B 10) = m1.aI (B 10) := by
          rw [hm165]
          funext q
          rw [sp_sI_aI, if_neg (fun z => hVm1.ne 10 9 (by decide) (by decide) (by decide) z.1)]
        have y11_165 : m165.aI (B 11) = m1.aI (B 11) := by
          rw [hm165]
          funext q
          rw [sp_sI_aI, if_neg (fun z => hVm1.ne 11 9 (by decide) (by decide) (by decide) z.1)]
        have y12_165 : m165.aI (B 12) = m1.aI (B 12) := by
          rw [hm165]
          funext q
          rw [sp_sI_aI, if_neg (fun z => hVm1.ne 12 9 (by decide) (by decide) (by decide) z.1)]
        have y16_165 : m165.aI (B 16) = m1.aI (B 16) := by
          rw [hm165]
          funext q
          rw [sp_sI_aI, if_neg (fun z => hVm1.ne 16 9 (by decide) (by decide) (by decide) z.1)]
        have u9_165 : ∀ j, m165.aI (B 9) j = if j = n1 then (nI b) else m1.aI (B 9) j := by
          rw [hm165]
          intro j
          rw [sp_sI_aI]
          by_cases q : j = n1
          · rw [if_pos ⟨rfl, q⟩, if_pos q]
          · rw [if_neg (fun z => q z.2), if_neg q]
        have sp_27_165 : m165.aI (B 27) = m1.aI (B 27) := by
          rw [hm165]
          funext q
          rw [sp_sI_aI, if_neg (fun z => hVm1.ne 27 9 (by decide) (by decide) (by decide) z.1)]
        clear hm165
        refine sp_aload_n X (pc := 166) (r := some (B 0)) dX12_comes_166 rfl rfl ?_
        refine sp_getfield X (pc := 167) (c := 13) (i := 15) (t := 2) (a := (B 0)) (v := va_rf (some (B 15))) rfl hVm165.r.o (by decide) rfl (congrArg va_rf hVm165.f15) fl_Mo_41 dX12_comes_167 ?_
        refine sp_aload_n X (pc := 170) (r := some (B 0)) dX12_comes_170 rfl rfl ?_
        refine sp_getfield X (pc := 171) (c := 13) (i := 14) (t := 0) (a := (B 0)) (v := .int (nI b)) rfl hVm165.r.o (by decide) rfl (congrArg Value.int hVm165.cb) fl_Mo_112 dX12_comes_171 ?_
        refine sp_aload_n X (pc := 174) (r := some (B 0)) dX12_comes_174 rfl rfl ?_
        refine sp_getfield X (pc := 175) (c := 13) (i := 28) (t := 2) (a := (B 0)) (v := va_rf (some (B 28))) rfl hVm165.r.o (by decide) rfl (congrArg va_rf hVm165.f28) fl_Mo_72 dX12_comes_175 ?_
        refine sp_iload_n X (pc := 178) (x := nI e1) dX12_comes_178 rfl rfl ?_
        refine sp_laload X (pc := 179) (a := (B 28)) rfl hVm165.y28 (sp_in e1 hVm165.l28 (by omega) (by decide)) dX12_comes_179 ?_
        rw [show (m165.aL (B 28) (nI e1).toNatClampNeg) = (m165.aL (B 28) e1) from (congrArg _ (nI_clamp (n := e1) (by omega)))]
        rw [show (m165.aL (B 28) e1) = (E.S e1) from ((congrFun hVm165.rE e1).trans c4)]
        refine sp_lastore X (pc := 180) (a := (B 15)) rfl hVm165.y15 (sp_in b hVm165.l15 (by omega) (by decide))  dX12_comes_180 ?_
        rw [show (nI b).toNatClampNeg = b from (nI_clamp (n := b) (by omega))]
        obtain ⟨m180, hm180⟩ : ∃ xm, xm = (m165.sL (B 15) b (E.S e1)) := ⟨_, rfl⟩
        rw [← hm180]
        have hVm180 : sp_V B m0 m180 D R l0 l1 d (n1 + 1) b p t e n1 w1 vq (nI (n1 + 1 - 4)) vl vs (fun i => if i = b then (E.S e1) else vA i) vE := by
          rw [hm180]
          exact hVm165.sA b (E.S e1)
        have rkm180 : sp_rk B [4, 6, 7, 8, 9, 10, 11, 12, 16, 34, 36, 37] m m180 := by
          rw [hm180]
          exact rkm165
        have a180 : m180.aI = m165.aI := by
          rw [hm180]
          rfl
        clear hm180
        refine sp_aload_n X (pc := 181) (r := some (B 0)) dX12_comes_181 rfl rfl ?_
        refine sp_getfield X (pc := 182) (c := 13) (i := 16) (t := 2) (a := (B 0)) (v := va_rf (some (B 16))) rfl hVm180.r.o (by decide) rfl (congrArg va_rf hVm180.f16) fl_Mo_45 dX12_comes_182 ?_
        refine sp_aload_n X (pc := 185) (r := some (B 0)) dX12_comes_185 rfl rfl ?_
        refine sp_getfield X (pc := 186) (c := 13) (i := 14) (t := 0) (a := (B 0)) (v := .int (nI b)) rfl hVm180.r.o (by decide) rfl (congrArg Value.int hVm180.cb) fl_Mo_112 dX12_comes_186 ?_
        refine sp_aload_n X (pc := 189) (r := some (B 0)) dX12_comes_189 rfl rfl ?_
        refine sp_getfield X (pc := 190) (c := 13) (i := 27) (t := 2) (a := (B 0)) (v := va_rf (some (B 27))) rfl hVm180.r.o (by decide) rfl (congrArg va_rf hVm180.f27) fl_Mo_69 dX12_comes_190 ?_
        refine sp_iload_n X (pc := 193) (x := nI e1) dX12_comes_193 rfl rfl ?_
        refine sp_iaload X (pc := 194) (a := (B 27)) rfl (Or.inl hVm180.y27) (sp_in e1 hVm180.l27 (by omega) (by decide)) dX12_comes_194 ?_
        rw [show (m180.aI (B 27) (nI e1).toNatClampNeg) = (m180.aI (B 27) e1) from (congrArg _ (nI_clamp (n := e1) (by omega)))]
        rw [show (m180.aI (B 27) e1) = (E.W e1) from (by rw [a180, sp_27_165]; exact c27)]
        refine sp_iastore X (pc := 195) (a := (B 16)) rfl hVm180.y16 (sp_in b hVm180.l16 (by omega) (by decide))  dX12_comes_195 ?_
        rw [show (nI b).toNatClampNeg = b from (nI_clamp (n := b) (by omega))]
        obtain ⟨m195, hm195⟩ : ∃ xm, xm = (m180.sI (B 16) b (E.W e1)) := ⟨_, rfl⟩
        rw [← hm195]
        have hVm195 : sp_V B m0 m195 D R l0 l1 d (n1 + 1) b p t e n1 w1 vq (nI (n1 + 1 - 4)) vl vs (fun i => if i = b then (E.S e1) else vA i) vE := by
          rw [hm195]
          exact hVm180.sI 16 b _ (by decide) (by decide) (Nat.zero_le _)
        have rkm195 : sp_rk B [4, 6, 7, 8, 9, 10, 11, 12, 16, 34, 36, 37] m m195 := by
          rw [hm195]
          exact rkm180.sI hVm180.r 16 _ _ (by decide) (by decide)
        have y4_195 : m195.aI (B 4) = m1.aI (B 4) := by
          rw [hm195]
          funext q
          rw [sp_sI_aI, if_neg (fun z => hVm1.ne 4 16 (by decide) (by decide) (by decide) z.1), a180, y4_165]
        have y5_195 : m195.aI (B 5) = m1.aI (B 5) := by
          rw [hm195]
          funext q
          rw [sp_sI_aI, if_neg (fun z => hVm1.ne 5 16 (by decide) (by decide) (by decide) z.1), a180, y5_165]
        have y6_195 : m195.aI (B 6) = m1.aI (B 6) := by
          rw [hm195]
          funext q
          rw [sp_sI_aI, if_neg (fun z => hVm1.ne 6 16 (by decide) (by decide) (by decide) z.1), a180, y6_165]
        have y7_195 : m195.aI (B 7) = m1.aI (B 7) := by
          rw [hm195]
          funext q
          rw [sp_sI_aI, if_neg (fun z => hVm1.ne 7 16 (by decide) (by decide) (by decide) z.1), a180, y7_165]
        have y8_195 : m195.aI (B 8) = m1.aI (B 8) := by
          rw [hm195]
          funext q
          rw [sp_sI_aI, if_neg (fun z => hVm1.ne 8 16 (by decide) (by decide) (by decide) z.1), a180, y8_165]
        have y10_195 : m195.aI (B 10) = m1.aI (B 10) := by
          rw [hm195]
          funext q
          rw [sp_sI_aI, if_neg (fun z => hVm1.ne 10 16 (by decide) (by decide) (by decide) z.1), a180, y10_165]
        have y11_195 : m195.aI (B 11) = m1.aI (B 11) := by
          rw [hm195]
          funext q
          rw [sp_sI_aI, if_neg (fun z => hVm1.ne 11 16 (by decide) (by decide) (by decide) z.1), a180, y11_165]
        have y12_195 : m195.aI (B 12) = m1.aI (B 12) := by
          rw [hm195]
          funext q
          rw [sp_sI_aI, if_neg (fun z => hVm1.ne 12 16 (by decide) (by decide) (by decide) z.1), a180, y12_165]
        have u9_195 : ∀ j, m195.aI (B 9) j = if j = n1 then (nI b) else m1.aI (B 9) j := by
          rw [hm195]
          intro j
          rw [sp_sI_aI, if_neg (fun z => hVm1.ne 9 16 (by decide) (by decide) (by decide) z.1), a180]
          exact u9_165 j
        have u16_195 : ∀ j, m195.aI (B 16) j = if j = b then (E.W e1) else m1.aI (B 16) j := by
          rw [hm195]
          intro j
          rw [sp_sI_aI, a180, y16_165]
          by_cases q : j = b
          · rw [if_pos ⟨rfl, q⟩, if_pos q]
          · rw [if_neg (fun z => q z.2), if_neg q]
        clear hm195
        refine sp_aload_n X (pc := 196) (r := some (B 0)) dX12_comes_196 rfl rfl ?_
        refine sp_dup X (pc := 197) dX12_comes_197 (sp_cat_rf _) ?_
        refine sp_getfield X (pc := 198) (c := 13) (i := 14) (t := 0) (a := (B 0)) (v := .int (nI b)) rfl hVm195.r.o (by decide) rfl (congrArg Value.int hVm195.cb) fl_Mo_112 dX12_comes_198 ?_
        refine sp_iconst X (pc := 201) (v := 1) dX12_comes_201 (by decide) ?_
        refine sp_iadd X (pc := 202) dX12_comes_202 ?_
        rw [show ((nI b) + 1) = (nI (b + 1)) from (nI_add b 1)]
        refine sp_putI X (pc := 203) (c := 13) (i := 14) (q := 846) (a := (B 0)) rfl hVm195.r.o (by decide) rfl rfl (Or.inl rfl) ⟨rfl, rfl⟩ fl_Mo_112 dX12_comes_203 ?_
        obtain ⟨m203, hm203⟩ : ∃ xm, xm = (m195.pI 846 (B 0) (nI (b + 1))) := ⟨_, rfl⟩
        rw [← hm203]
        have hVm203 : sp_V B m0 m203 D R l0 l1 d (n1 + 1) (b + 1) p t e n1 w1 vq (nI (n1 + 1 - 4)) vl vs (fun i => if i = b then (E.S e1) else vA i) vE := by
          rw [hm203]
          exact hVm195.pb (b + 1) (by omega)
        have rkm203 : sp_rk B [4, 6, 7, 8, 9, 10, 11, 12, 16, 34, 36, 37] m m203 := by
          rw [hm203]
          exact rkm195
        have a203 : m203.aI = m195.aI := by
          rw [hm203]
          rfl
        clear hm203
        refine sp_aload_n X (pc := 206) (r := some (B 0)) dX12_comes_206 rfl rfl ?_
        refine sp_dup X (pc := 207) dX12_comes_207 (sp_cat_rf _) ?_
        refine sp_getfield X (pc := 208) (c := 13) (i := 32) (t := 1) (a := (B 0)) (v := .long vs) rfl hVm203.r.o (by decide) rfl (congrArg Value.long hVm203.cs) fl_Mo_220 dX12_comes_208 ?_
        refine sp_aload_n X (pc := 211) (r := some (B 0)) dX12_comes_211 rfl rfl ?_
        refine sp_getfield X (pc := 212) (c := 13) (i := 28) (t := 2) (a := (B 0)) (v := va_rf (some (B 28))) rfl hVm203.r.o (by decide) rfl (congrArg va_rf hVm203.f28) fl_Mo_72 dX12_comes_212 ?_
        refine sp_iload_n X (pc := 215) (x := nI e1) dX12_comes_215 rfl rfl ?_
        refine sp_laload X (pc := 216) (a := (B 28)) rfl hVm203.y28 (sp_in e1 hVm203.l28 (by omega) (by decide)) dX12_comes_216 ?_
        rw [show (m203.aL (B 28) (nI e1).toNatClampNeg) = (m203.aL (B 28) e1) from (congrArg _ (nI_clamp (n := e1) (by omega)))]
        rw [show (m203.aL (B 28) e1) = (E.S e1) from ((congrFun hVm203.rE e1).trans c4)]
        refine sp_ladd X (pc := 217) dX12_comes_217 ?_
        refine sp_putL X (pc := 218) (c := 13) (i := 32) (q := 864) (a := (B 0)) rfl hVm203.r.o (by decide) rfl rfl (Or.inl rfl)  fl_Mo_220 dX12_comes_218 ?_
        obtain ⟨m218, hm218⟩ : ∃ xm, xm = (m203.pL 864 (B 0) (vs + (E.S e1))) := ⟨_, rfl⟩
        rw [← hm218]
        have hVm218 : sp_V B m0 m218 D R l0 l1 d (n1 + 1) (b + 1) p t e n1 w1 vq (nI (n1 + 1 - 4)) vl (vs + (E.S e1)) (fun i => if i = b then (E.S e1) else vA i) vE := by
          rw [hm218]
          exact hVm203.xs (vs + (E.S e1))
        have rkm218 : sp_rk B [4, 6, 7, 8, 9, 10, 11, 12, 16, 34, 36, 37] m m218 := by
          rw [hm218]
          exact rkm203
        have a218 : m218.aI = m195.aI := by
          rw [hm218]
          exact a203
        clear hm218
        refine sp_goto X (pc := 221) (tgt := 264) dX12_comes_221 (by decide) ?_
        refine sp_iload X (pc := 264) (x := nI n1) dX12_comes_264 rfl ?_
        refine sp_ireturn X (pc := 266) dX12_comes_266 rfl ⟨_, rfl, ?_⟩
        first
          | (refine ⟨by rw [hn1e], _, _, _, _, _, _, _, hVm143.tL (fun j q1 q2 q3 => ?_), sp_mZ.mk hZn hZb PM hn1e (sp_mN.fin hA (fun j z => by have := (hth j z).2; omega) ((y143 4 (by decide) (by decide)).trans (rk7 4 (by decide) (by decide))) ((y143 5 (by decide) (by decide)).trans (rk7 5 (by decide) (by decide))) ((y143 8 (by decide) (by decide)).trans (rk7 8 (by decide) (by decide))) ((y143 10 (by decide) (by decide)).trans (rk7 10 (by decide) (by decide))) ((y143 11 (by decide) (by decide)).trans (rk7 11 (by decide) (by decide))) (fun j => by rw [(y143 7 (by decide) (by decide))]; exact h7m j) ((fun j => by
            rw [y143 6 (by decide) (by decide), rk7 6 (by decide) (by decide)]
            by_cases q : j = n1
            · rw [if_pos q, hdd0 (by rw [hb130]; decide), q]
              exact ((hA 0).1 n1 (by omega)).2.2.1.trans (if_pos rfl)
            · rw [if_neg q])) (fun j hj => by rw [y143 9 (by decide) (by decide), rk7 9 (by decide) (by decide)]) (fun z => absurd (by rw [hb130]; exact pu_kk0) z)) (by rw [hb130]; rfl) ((fun j hj => by
            have hj : j < b := hj
            rw [if_neg (by omega), if_neg (by omega), y143 16 (by decide) (by decide)]
            exact hMB1 j hj)) (fun j hj => ?_) (by rw [if_pos hb130, List.length_append, List.length_singleton, hvq]; exact nI_1 _) rfl (by rw [if_neg (by rw [hb130]; decide)]; exact hvs), rkm143⟩
             · obtain rfl : j = n1 := by omega
               have z := ((hA 0).1 j (by omega)).1.trans (if_pos rfl)
               rw [y143 4 (by decide) (by decide), rk7 4 (by decide) (by decide), z, hb130, pu_kk0] at q3
               exact absurd q3 (by decide)
             · rw [if_pos hb130, pu_last.snoc, h12143 j]
               by_cases q : j = n1
               · rw [if_pos q, if_pos q]
                 rcases hva with y | y
                 · rw [y, if_neg (by decide)]; rfl
                 · rw [y, if_pos rfl]; rfl
               · rw [if_neg q, if_neg q, s12 j]
                 by_cases q2 : n ≤ j
                 · rw [if_pos ⟨q2, by omega⟩, pu_last.no hZW.2.1 (by rw [← hZn]; exact q2)]
                   rfl
                 · rw [if_neg (fun z => q2 z.1)]
                   exact hMQ j (by omega))
          | exact ⟨by rw [hn1e], _, _, _, _, _, _, _, hVm251.tL (fun j q1 q2 _ => ⟨E.X e1, by
              obtain rfl : j = n1 := by omega
              rw [u9_251, if_pos rfl], (hx2 hb227).1⟩), sp_mZ.mk hZn hZb PM hn1e (sp_mN.fin hA (fun j z => by have := (hth j z).2; omega) (y4_251.trans (rk7 4 (by decide) (by decide))) (y5_251.trans (rk7 5 (by decide) (by decide))) (y8_251.trans (rk7 8 (by decide) (by decide))) (y10_251.trans (rk7 10 (by decide) (by decide))) (y11_251.trans (rk7 11 (by decide) (by decide))) (fun j => by rw [y7_251]; exact h7m j) (fun j => by rw [u6_251 j, rk7 6 (by decide) (by decide)]) (fun j hj => by rw [u9_251 j, if_neg (by omega), rk7 9 (by decide) (by decide)]) (fun _ => by rw [u9_251, if_pos rfl, hb227, pu_h2])) (by rw [hb227]; rfl) ((fun j hj => by
            have hj : j < b := hj
            rw [if_neg (by omega), if_neg (by omega), y16_251]
            exact hMB1 j hj)) ((fun j hj => by
            rw [if_neg hb130, y12_251, s12 j]
            by_cases q : n ≤ j
            · rw [if_pos ⟨q, by omega⟩, pu_last.no hZW.2.1 (by rw [← hZn]; exact q)]
              rfl
            · rw [if_neg (fun z => q z.1)]
              exact hMQ j (by omega))) (by rw [if_neg hb130]; exact hvq) rfl (by rw [if_neg hb152]; exact hvs), rkm251⟩
          | (have hk3 : E.K e1 = 3 := by
               rcases hkr with z | z | z | z | z
               · exact absurd z hb130
               · exact absurd z hb152
               · exact absurd z hb227
               · exact z
               · exact absurd z hk4
             obtain ⟨q9, hq91, hq92, hq93⟩ := hsh hk3
             exact ⟨by rw [hn1e], _, _, _, _, _, _, _, hVm263.tL (fun j q1 q2 q3 => by
               obtain rfl : j = n1 := by omega
               have z := ((hA 0).1 j (by omega)).1.trans (if_pos rfl)
               rw [y4_263, rk7 4 (by decide) (by decide), z, hk3, pu_kk3] at q3
               exact absurd q3 (by decide)), sp_mZ.mk hZn hZb PM hn1e (sp_mN.fin hA (fun j z => by have := (hth j z).2; omega) (y4_263.trans (rk7 4 (by decide) (by decide))) (y5_263.trans (rk7 5 (by decide) (by decide))) (y8_263.trans (rk7 8 (by decide) (by decide))) (y10_263.trans (rk7 10 (by decide) (by decide))) (y11_263.trans (rk7 11 (by decide) (by decide))) (fun j => by rw [y7_263]; exact h7m j) ((fun j => by
            rw [y6_263, rk7 6 (by decide) (by decide)]
            by_cases q : j = n1
            · rw [if_pos q, hdd0 hb227, q]
              exact ((hA 0).1 n1 (by omega)).2.2.1.trans (if_pos rfl)
            · rw [if_neg q])) (fun j hj => by rw [u9_263 j, if_neg (by omega), rk7 9 (by decide) (by decide)]) (fun _ => by rw [u9_263, if_pos rfl, hk3, pu_h3, hq91, hq93]; rfl)) (by rw [hk3]; rfl) ((fun j hj => by
            have hj : j < b := hj
            rw [if_neg (by omega), if_neg (by omega), y16_263]
            exact hMB1 j hj)) ((fun j hj => by
            rw [if_neg hb130, y12_263, s12 j]
            by_cases q : n ≤ j
            · rw [if_pos ⟨q, by omega⟩, pu_last.no hZW.2.1 (by rw [← hZn]; exact q)]
              rfl
            · rw [if_neg (fun z => q z.1)]
              exact hMQ j (by omega))) (by rw [if_neg hb130]; exact hvq) rfl (by rw [if_neg hb152]; exact hvs), rkm263⟩)
          | (refine ⟨by rw [hn1e], _, _, _, _, _, _, _, hVm218.tL (fun j q1 q2 q3 => ?_), sp_mZ.mk hZn hZb PM hn1e (sp_mN.fin hA (fun j z => by have := (hth j z).2; omega) (((congrFun a218 (B 4)).trans y4_195).trans (rk7 4 (by decide) (by decide))) (((congrFun a218 (B 5)).trans y5_195).trans (rk7 5 (by decide) (by decide))) (((congrFun a218 (B 8)).trans y8_195).trans (rk7 8 (by decide) (by decide))) (((congrFun a218 (B 10)).trans y10_195).trans (rk7 10 (by decide) (by decide))) (((congrFun a218 (B 11)).trans y11_195).trans (rk7 11 (by decide) (by decide))) (fun j => by rw [((congrFun a218 (B 7)).trans y7_195)]; exact h7m j) ((fun j => by
            rw [a218, y6_195, rk7 6 (by decide) (by decide)]
            by_cases q : j = n1
            · rw [if_pos q, hdd0 (by rw [hb152]; decide), q]
              exact ((hA 0).1 n1 (by omega)).2.2.1.trans (if_pos rfl)
            · rw [if_neg q])) (fun j hj => by rw [a218, u9_195 j, if_neg (by omega), rk7 9 (by decide) (by decide)]) (fun _ => by rw [a218, u9_195, if_pos rfl, hb152, pu_h1])) (by rw [hb152]; rfl) (fun j hj => ?_) ((fun j hj => by
            rw [if_neg hb130, a218, y12_195, s12 j]
            by_cases q : n ≤ j
            · rw [if_pos ⟨q, by omega⟩, pu_last.no hZW.2.1 (by rw [← hZn]; exact q)]
              rfl
            · rw [if_neg (fun z => q z.1)]
              exact hMQ j (by omega))) (by rw [if_neg hb130]; exact hvq) rfl (by rw [if_pos hb152, hvs]), rkm218⟩
             · obtain rfl : j = n1 := by omega
               have z := ((hA 0).1 j (by omega)).1.trans (if_pos rfl)
               rw [a218, y4_195, rk7 4 (by decide) (by decide), z, hb152, pu_kk1] at q3
               exact absurd q3 (by decide)
             · show (if j = b then E.S e1 else vA j) = _ ∧ m218.aI (B 16) j = _
               rw [a218, u16_195 j]
               by_cases q : j = b
               · rw [if_pos q, if_pos q, if_pos q, if_pos q]
                 exact ⟨rfl, rfl⟩
               · have hj2 : j < b + 1 := hj
                 rw [if_neg q, if_neg q, if_neg q, if_neg q]
                 exact hMB1 j (by omega))
    · refine sp_aload_n X (pc := 133) (r := some (B 0)) dX12_comes_133 rfl rfl ?_
      refine sp_iload X (pc := 134) (x := nI n1) dX12_comes_134 rfl ?_
      refine sp_aload_n X (pc := 136) (r := some (B 0)) dX12_comes_136 rfl rfl ?_
      refine sp_getfield X (pc := 137) (c := 13) (i := 27) (t := 2) (a := (B 0)) (v := va_rf (some (B 27))) rfl hVm1.r.o (by decide) rfl (congrArg va_rf hVm1.f27) fl_Mo_69 dX12_comes_137 ?_
      refine sp_iload_n X (pc := 140) (x := nI e1) dX12_comes_140 rfl rfl ?_
      refine sp_iaload X (pc := 141) (a := (B 27)) rfl (Or.inl hVm1.y27) (sp_in e1 hVm1.l27 (by omega) (by decide)) dX12_comes_141 ?_
      rw [show (m1.aI (B 27) (nI e1).toNatClampNeg) = (m1.aI (B 27) e1) from (congrArg _ (nI_clamp (n := e1) (by omega)))]
      rw [show (m1.aI (B 27) e1) = (E.W e1) from c27]
      refine sp_iconst X (pc := 142) (v := 1) dX12_comes_142 (by decide) ?_
      refine sp_callV X (pc := 143) (mc := 0) (ms := 0) (b := (B 0)) (c := 13) (r := some (B 0)) (As := [.int (nI n1), .int (E.W e1), .int 1]) (rest := []) (c_Mo_note l G _ hVm1 (j := n1) (by omega)) ok_Mo_note rfl hVm1.r.o (by decide) rfl lk_Mo_206 rfl rfl (Nat.zero_le _) (Nat.le_of_ble_eq_true rfl) (Nat.le_of_ble_eq_true rfl) (Nat.zero_le _) (Nat.zero_le _) dX12_comes_143 (sp_kV fun m143 hp143 => ?_)
      obtain ⟨hVm143, hn143, h12143⟩ : sp_V B m0 m143 D R l0 l1 d (n1 + 1) b p t e n1 w1 (vq + 1) (nI (n1 + 1 - 4)) vl vs vA vE ∧ (∀ a, a ≠ B 12 → m143.aI a = m1.aI a) ∧ ∀ i, m143.aI (B 12) i = if i = n1 then E.W e1 else m1.aI (B 12) i := by
        rcases hp143 with ⟨z, -⟩ | ⟨-, z⟩
        · exact absurd z (by decide)
        · exact z
      have y143 : ∀ r, (sp_mt r).1 ≠ 0 → r ≠ 12 → m143.aI (B r) = m1.aI (B r) := fun r hr h12 => hn143 _ (hVm1.ne r 12 hr (by decide) h12)
      have hva := hx0 hb130
      have rkm143 : sp_rk B [4, 6, 7, 8, 9, 10, 11, 12, 16, 34, 36, 37] m m143 := rkm1.trans ((sp_rk.of1 (k := 12) hn143 hVm1.r (by decide)).mono (by decide))
      refine sp_goto X (pc := 146) (tgt := 264) dX12_comes_146 (by decide) ?_
      refine sp_iload X (pc := 264) (x := nI n1) dX12_comes_264 rfl ?_
      refine sp_ireturn X (pc := 266) dX12_comes_266 rfl ⟨_, rfl, ?_⟩
      first
        | (refine ⟨by rw [hn1e], _, _, _, _, _, _, _, hVm143.tL (fun j q1 q2 q3 => ?_), sp_mZ.mk hZn hZb PM hn1e (sp_mN.fin hA (fun j z => by have := (hth j z).2; omega) ((y143 4 (by decide) (by decide)).trans (rk7 4 (by decide) (by decide))) ((y143 5 (by decide) (by decide)).trans (rk7 5 (by decide) (by decide))) ((y143 8 (by decide) (by decide)).trans (rk7 8 (by decide) (by decide))) ((y143 10 (by decide) (by decide)).trans (rk7 10 (by decide) (by decide))) ((y143 11 (by decide) (by decide)).trans (rk7 11 (by decide) (by decide))) (fun j => by rw [(y143 7 (by decide) (by decide))]; exact h7m j) ((fun j => by
          rw [y143 6 (by decide) (by decide), rk7 6 (by decide) (by decide)]
          by_cases q : j = n1
          · rw [if_pos q, hdd0 (by rw [hb130]; decide), q]
            exact ((hA 0).1 n1 (by omega)).2.2.1.trans (if_pos rfl)
          · rw [if_neg q])) (fun j hj => by rw [y143 9 (by decide) (by decide), rk7 9 (by decide) (by decide)]) (fun z => absurd (by rw [hb130]; exact pu_kk0) z)) (by rw [hb130]; rfl) ((fun j hj => by
          have hj : j < b := hj
          rw [if_neg (by omega), if_neg (by omega), y143 16 (by decide) (by decide)]
          exact hMB1 j hj)) (fun j hj => ?_) (by rw [if_pos hb130, List.length_append, List.length_singleton, hvq]; exact nI_1 _) rfl (by rw [if_neg (by rw [hb130]; decide)]; exact hvs), rkm143⟩
           · obtain rfl : j = n1 := by omega
             have z := ((hA 0).1 j (by omega)).1.trans (if_pos rfl)
             rw [y143 4 (by decide) (by decide), rk7 4 (by decide) (by decide), z, hb130, pu_kk0] at q3
             exact absurd q3 (by decide)
           · rw [if_pos hb130, pu_last.snoc, h12143 j]
             by_cases q : j = n1
             · rw [if_pos q, if_pos q]
               rcases hva with y | y
               · rw [y, if_neg (by decide)]; rfl
               · rw [y, if_pos rfl]; rfl
             · rw [if_neg q, if_neg q, s12 j]
               by_cases q2 : n ≤ j
               · rw [if_pos ⟨q2, by omega⟩, pu_last.no hZW.2.1 (by rw [← hZn]; exact q2)]
                 rfl
               · rw [if_neg (fun z => q2 z.1)]
                 exact hMQ j (by omega))
        | exact ⟨by rw [hn1e], _, _, _, _, _, _, _, hVm251.tL (fun j q1 q2 _ => ⟨E.X e1, by
            obtain rfl : j = n1 := by omega
            rw [u9_251, if_pos rfl], (hx2 hb227).1⟩), sp_mZ.mk hZn hZb PM hn1e (sp_mN.fin hA (fun j z => by have := (hth j z).2; omega) (y4_251.trans (rk7 4 (by decide) (by decide))) (y5_251.trans (rk7 5 (by decide) (by decide))) (y8_251.trans (rk7 8 (by decide) (by decide))) (y10_251.trans (rk7 10 (by decide) (by decide))) (y11_251.trans (rk7 11 (by decide) (by decide))) (fun j => by rw [y7_251]; exact h7m j) (fun j => by rw [u6_251 j, rk7 6 (by decide) (by decide)]) (fun j hj => by rw [u9_251 j, if_neg (by omega), rk7 9 (by decide) (by decide)]) (fun _ => by rw [u9_251, if_pos rfl, hb227, pu_h2])) (by rw [hb227]; rfl) ((fun j hj => by
          have hj : j < b := hj
          rw [if_neg (by omega), if_neg (by omega), y16_251]
          exact hMB1 j hj)) ((fun j hj => by
          rw [if_neg hb130, y12_251, s12 j]
          by_cases q : n ≤ j
          · rw [if_pos ⟨q, by omega⟩, pu_last.no hZW.2.1 (by rw [← hZn]; exact q)]
            rfl
          · rw [if_neg (fun z => q z.1)]
            exact hMQ j (by omega))) (by rw [if_neg hb130]; exact hvq) rfl (by rw [if_neg hb152]; exact hvs), rkm251⟩
        | (have hk3 : E.K e1 = 3 := by
             rcases hkr with z | z | z | z | z
             · exact absurd z hb130
             · exact absurd z hb152
             · exact absurd z hb227
             · exact z
             · exact absurd z hk4
           obtain ⟨q9, hq91, hq92, hq93⟩ := hsh hk3
           exact ⟨by rw [hn1e], _, _, _, _, _, _, _, hVm263.tL (fun j q1 q2 q3 => by
             obtain rfl : j = n1 := by omega
             have z := ((hA 0).1 j (by omega)).1.trans (if_pos rfl)
             rw [y4_263, rk7 4 (by decide) (by decide), z, hk3, pu_kk3] at q3
             exact absurd q3 (by decide)), sp_mZ.mk hZn hZb PM hn1e (sp_mN.fin hA (fun j z => by have := (hth j z).2; omega) (y4_263.trans (rk7 4 (by decide) (by decide))) (y5_263.trans (rk7 5 (by decide) (by decide))) (y8_263.trans (rk7 8 (by decide) (by decide))) (y10_263.trans (rk7 10 (by decide) (by decide))) (y11_263.trans (rk7 11 (by decide) (by decide))) (fun j => by rw [y7_263]; exact h7m j) ((fun j => by
          rw [y6_263, rk7 6 (by decide) (by decide)]
          by_cases q : j = n1
          · rw [if_pos q, hdd0 hb227, q]
            exact ((hA 0).1 n1 (by omega)).2.2.1.trans (if_pos rfl)
          · rw [if_neg q])) (fun j hj => by rw [u9_263 j, if_neg (by omega), rk7 9 (by decide) (by decide)]) (fun _ => by rw [u9_263, if_pos rfl, hk3, pu_h3, hq91, hq93]; rfl)) (by rw [hk3]; rfl) ((fun j hj => by
          have hj : j < b := hj
          rw [if_neg (by omega), if_neg (by omega), y16_263]
          exact hMB1 j hj)) ((fun j hj => by
          rw [if_neg hb130, y12_263, s12 j]
          by_cases q : n ≤ j
          · rw [if_pos ⟨q, by omega⟩, pu_last.no hZW.2.1 (by rw [← hZn]; exact q)]
            rfl
          · rw [if_neg (fun z => q z.1)]
            exact hMQ j (by omega))) (by rw [if_neg hb130]; exact hvq) rfl (by rw [if_neg hb152]; exact hvs), rkm263⟩)
        | (refine ⟨by rw [hn1e], _, _, _, _, _, _, _, hVm218.tL (fun j q1 q2 q3 => ?_), sp_mZ.mk hZn hZb PM hn1e (sp_mN.fin hA (fun j z => by have := (hth j z).2; omega) (((congrFun a218 (B 4)).trans y4_195).trans (rk7 4 (by decide) (by decide))) (((congrFun a218 (B 5)).trans y5_195).trans (rk7 5 (by decide) (by decide))) (((congrFun a218 (B 8)).trans y8_195).trans (rk7 8 (by decide) (by decide))) (((congrFun a218 (B 10)).trans y10_195).trans (rk7 10 (by decide) (by decide))) (((congrFun a218 (B 11)).trans y11_195).trans (rk7 11 (by decide) (by decide))) (fun j => by rw [((congrFun a218 (B 7)).trans y7_195)]; exact h7m j) ((fun j => by
          rw [a218, y6_195, rk7 6 (by decide) (by decide)]
          by_cases q : j = n1
          · rw [if_pos q, hdd0 (by rw [hb152]; decide), q]
            exact ((hA 0).1 n1 (by omega)).2.2.1.trans (if_pos rfl)
          · rw [if_neg q])) (fun j hj => by rw [a218, u9_195 j, if_neg (by omega), rk7 9 (by decide) (by decide)]) (fun _ => by rw [a218, u9_195, if_pos rfl, hb152, pu_h1])) (by rw [hb152]; rfl) (fun j hj => ?_) ((fun j hj => by
          rw [if_neg hb130, a218, y12_195, s12 j]
          by_cases q : n ≤ j
          · rw [if_pos ⟨q, by omega⟩, pu_last.no hZW.2.1 (by rw [← hZn]; exact q)]
            rfl
          · rw [if_neg (fun z => q z.1)]
            exact hMQ j (by omega))) (by rw [if_neg hb130]; exact hvq) rfl (by rw [if_pos hb152, hvs]), rkm218⟩
           · obtain rfl : j = n1 := by omega
             have z := ((hA 0).1 j (by omega)).1.trans (if_pos rfl)
             rw [a218, y4_195, rk7 4 (by decide) (by decide), z, hb152, pu_kk1] at q3
             exact absurd q3 (by decide)
           · show (if j = b then E.S e1 else vA j) = _ ∧ m218.aI (B 16) j = _
             rw [a218, u16_195 j]
             by_cases q : j = b
             · rw [if_pos q, if_pos q, if_pos q, if_pos q]
               exact ⟨rfl, rfl⟩
             · have hj2 : j < b + 1 := hj
               rw [if_neg q, if_neg q, if_neg q, if_neg q]
               exact hMB1 j (by omega))
  refine sp_aload_n X (pc := 0) (r := some (B 0)) dX12_comes_0 rfl rfl ?_
  refine sp_getfield X (pc := 1) (c := 13) (i := 26) (t := 2) (a := (B 0)) (v := va_rf (some (B 26))) rfl hVm.r.o (by decide) rfl (congrArg va_rf hVm.f26) fl_Mo_66 dX12_comes_1 ?_
  refine sp_iload_n X (pc := 4) (x := nI e1) dX12_comes_4 rfl rfl ?_
  refine sp_iaload X (pc := 5) (a := (B 26)) rfl (Or.inl hVm.y26) (sp_in e1 hVm.l26 (by omega) (by decide)) dX12_comes_5 ?_
  rw [show (m.aI (B 26) (nI e1).toNatClampNeg) = (m.aI (B 26) e1) from (congrArg _ (nI_clamp (n := e1) (by omega)))]
  rw [show (m.aI (B 26) e1) = (nI (E.P e1)) from c2]
  refine sp_istore X (pc := 6) (lv' := [(7, false, .int (nI (E.P e1))), (0, false, va_rf (some (B 0))), (1, false, .int (nI e1)), (2, false, .int (nI f)), (3, false, .int (nI lk)), (4, false, .int thv), (5, false, .int dd), (6, false, .int bo)]) dX12_comes_6  (by decide) rfl ?_
  refine sp_aload_n X (pc := 8) (r := some (B 0)) dX12_comes_8 rfl rfl ?_
  refine sp_getfield X (pc := 9) (c := 13) (i := 18) (t := 2) (a := (B 0)) (v := va_rf (some (B 18))) rfl hVm.r.o (by decide) rfl (congrArg va_rf hVm.f18) fl_Mo_48 dX12_comes_9 ?_
  refine sp_iload X (pc := 12) (x := (nI (E.P e1))) dX12_comes_12 rfl ?_
  refine sp_iaload X (pc := 14) (a := (B 18)) rfl (Or.inl hVm.y18) (sp_in (E.P e1) hVm.l18 (by omega) (by decide)) dX12_comes_14 ?_
  rw [show (m.aI (B 18) (nI (E.P e1)).toNatClampNeg) = (m.aI (B 18) (E.P e1)) from (congrArg _ (nI_clamp (n := (E.P e1)) (by omega)))]
  rw [show (m.aI (B 18) (E.P e1)) = (nI (PT (E.P e1)).length) from hq]
  refine sp_iconst X (pc := 15) (v := 1) dX12_comes_15 (by decide) ?_
  refine sp_isub X (pc := 16) dX12_comes_16 ?_
  rw [show ((nI (PT (E.P e1)).length) - 1) = (nI ((PT (E.P e1)).length - 1)) from sp_sub (c := 1) (by omega)]
  refine sp_istore X (pc := 17) (lv' := [(8, false, .int (nI ((PT (E.P e1)).length - 1))), (7, false, .int (nI (E.P e1))), (0, false, va_rf (some (B 0))), (1, false, .int (nI e1)), (2, false, .int (nI f)), (3, false, .int (nI lk)), (4, false, .int thv), (5, false, .int dd), (6, false, .int bo)]) dX12_comes_17  (by decide) rfl ?_
  refine sp_iload_n X (pc := 19) (x := nI f) dX12_comes_19 rfl rfl ?_
  refine sp_istore X (pc := 20) (lv' := [(9, false, .int (nI f)), (8, false, .int (nI ((PT (E.P e1)).length - 1))), (7, false, .int (nI (E.P e1))), (0, false, va_rf (some (B 0))), (1, false, .int (nI e1)), (2, false, .int (nI f)), (3, false, .int (nI lk)), (4, false, .int thv), (5, false, .int dd), (6, false, .int bo)]) dX12_comes_20  (by decide) rfl ?_
  refine sp_iload X (pc := 22) (x := (nI ((PT (E.P e1)).length - 1))) dX12_comes_22 rfl ?_
  refine sp_iload_n X (pc := 24) (x := nI lk) dX12_comes_24 rfl rfl ?_
  refine sp_isub X (pc := 25) dX12_comes_25 ?_
  rw [show ((nI ((PT (E.P e1)).length - 1)) - (nI lk)) = (nI ((PT (E.P e1)).length - 1 - lk)) from sp_sub (by omega)]
  refine sp_istore X (pc := 26) (lv' := [(10, false, .int (nI ((PT (E.P e1)).length - 1 - lk))), (9, false, .int (nI f)), (8, false, .int (nI ((PT (E.P e1)).length - 1))), (7, false, .int (nI (E.P e1))), (0, false, va_rf (some (B 0))), (1, false, .int (nI e1)), (2, false, .int (nI f)), (3, false, .int (nI lk)), (4, false, .int thv), (5, false, .int dd), (6, false, .int bo)]) dX12_comes_26  (by decide) rfl ?_
  have loop28 : ∀ (dz : Nat) (i f1 n1 w1 : Nat) (T9 : pu_N) (m1 : sp_M), sp_rk B [4, 6, 7, 8, 9, 10, 11, 12, 16, 34, 36, 37] m m1 → i ≤ lk → n1 = n + i → f1 < n1 → sp_V B m0 m1 D R l0 l1 d n1 b p t e n1 w1 vq vm vl vs vA vE → sp_rk B [4, 8, 9, 10, 11, 12, 34] m m1 → sp_mN m1 B n1 n1 T9 → pu_W n1 b t T9 → pu_ins T9.o f1 → pu_many Z.T n f (((PT (E.P e1)).take ((PT (E.P e1)).length - 1)).drop ((PT (E.P e1)).length - 1 - lk)) = pu_many T9 n1 f1 (((PT (E.P e1)).take ((PT (E.P e1)).length - 1)).drop ((PT (E.P e1)).length - 1 - (lk - i))) → (∀ j, m1.aI (B 12) j = if n ≤ j ∧ j < n1 then -1 else m.aI (B 12) j) → lk - i = dz → w 0 0 m1 28 [(0, false, va_rf (some (B 0))), (1, false, .int (nI e1)), (3, false, .int (nI lk)), (4, false, .int thv), (5, false, .int dd), (6, false, .int bo), (7, false, .int (nI (E.P e1))), (8, false, .int (nI ((PT (E.P e1)).length - 1))), (9, false, .int (nI f1)), (10, false, .int (nI ((PT (E.P e1)).length - 1 - lk + i)))] [] := by
    intro dz
    induction dz using Nat.strongRecOn with
    | ind dz ih =>
      intro i f1 n1 w1 T9 m1 rkm1 hi hn1 hf1 hVm1 hr1 N9 W9 hfi9 PM9 s12 hdz
      refine sp_iload X (pc := 28) (x := nI ((PT (E.P e1)).length - 1 - lk + i)) dX12_comes_28 rfl ?_
      refine sp_iload X (pc := 30) (x := nI ((PT (E.P e1)).length - 1)) dX12_comes_30 rfl ?_
      refine sp_icmp_ge X (pc := 32) (tgt := 58) dX12_comes_32 (by decide) (fun hb32 => ?_) (fun hb32 => ?_)
      · have hil : i = lk := by
          have := sp_nge hb32 (by omega) (by omega)
          omega
        refine sp_aload_n X (pc := 58) (r := some (B 0)) dX12_comes_58 rfl rfl ?_
        refine sp_iload X (pc := 59) (x := nI (E.P e1)) dX12_comes_59 rfl ?_
        refine sp_iload X (pc := 61) (x := nI ((PT (E.P e1)).length - 1)) dX12_comes_61 rfl ?_
        refine sp_callV X (pc := 63) (mc := 0) (ms := 0) (b := (B 0)) (c := 13) (r := some (B 0)) (As := [.int (nI (E.P e1)), .int (nI ((PT (E.P e1)).length - 1))]) (rest := []) (c_Mo_partWord l G _ hVm1 (k := (PT (E.P e1)).length - 1) (hP.rk hr1 (by decide) (by decide) (by decide)) hPl hgp (by omega)) ok_Mo_partWord rfl hVm1.r.o (by decide) rfl lk_Mo_189 rfl rfl (Nat.zero_le _) (Nat.le_of_ble_eq_true rfl) (Nat.le_of_ble_eq_true rfl) (Nat.zero_le _) (Nat.zero_le _) dX12_comes_63 (sp_kV fun m63 hp63 => ?_)
        obtain ⟨hVm63, hwd63, hwu63⟩ := hp63
        have hr63 := hr1.trans ((sp_rk.wd hwd63 hVm1.r).mono (by decide : ∀ k, k ∈ [34] → k ∈ [4, 8, 9, 10, 11, 12, 34]))
        have hN63 := N9.rk (sp_rk.wd hwd63 hVm1.r) (by decide)
        have lk9 := lj.2.2 ((PT (E.P e1)).length - 1) (by omega)
        have e63 : m63.aI (B 12) = m1.aI (B 12) := hwd63.2 _ (hVm1.ne 12 34 (by decide) (by decide) (by decide))
        have c63 : m63.aI (B 25) e1 = E.K e1 := (congrFun (hr63 25 (by decide) (by decide)) e1).trans c1
        have e16 : ∀ mz, sp_rk B [4, 8, 9, 10, 11, 12] m63 mz → mz.aI (B 16) = m.aI (B 16) := fun mz hz => (hz 16 (by decide) (by decide)).trans (hr63 16 (by decide) (by decide))
        have hn1e : n1 = n + lk := by omega
        have PM : pu_many Z.T n f (((PT (E.P e1)).take ((PT (E.P e1)).length - 1)).drop ((PT (E.P e1)).length - 1 - lk)) = (T9, n1, f1) := by
          rw [PM9, hil, Nat.sub_self, pu_drop0]
          rfl
        have rkm63 : sp_rk B [4, 6, 7, 8, 9, 10, 11, 12, 16, 34, 36, 37] m m63 := rkm1.trans ((sp_rk.wd hwd63 hVm1.r).mono (by decide))
        refine sp_aload_n X (pc := 66) (r := some (B 0)) dX12_comes_66 rfl rfl ?_
        refine sp_getfield X (pc := 67) (c := 13) (i := 25) (t := 2) (a := (B 0)) (v := va_rf (some (B 25))) rfl hVm63.r.o (by decide) rfl (congrArg va_rf hVm63.f25) fl_Mo_63 dX12_comes_67 ?_
        refine sp_iload_n X (pc := 70) (x := nI e1) dX12_comes_70 rfl rfl ?_
        refine sp_iaload X (pc := 71) (a := (B 25)) rfl (Or.inl hVm63.y25) (sp_in e1 hVm63.l25 (by omega) (by decide)) dX12_comes_71 ?_
        rw [show (m63.aI (B 25) (nI e1).toNatClampNeg) = (m63.aI (B 25) e1) from (congrArg _ (nI_clamp (n := e1) (by omega)))]
        rw [show (m63.aI (B 25) e1) = (E.K e1) from c63]
        refine sp_istore X (pc := 72) (lv' := [(10, false, .int (E.K e1)), (0, false, va_rf (some (B 0))), (1, false, .int (nI e1)), (3, false, .int (nI lk)), (4, false, .int thv), (5, false, .int dd), (6, false, .int bo), (7, false, .int (nI (E.P e1))), (8, false, .int (nI ((PT (E.P e1)).length - 1))), (9, false, .int (nI f1))]) dX12_comes_72  (by decide) rfl ?_
        have cut95 : ∀ (k9 : Int32), sp_rk B [4, 6, 7, 8, 9, 10, 11, 12, 16, 34, 36, 37] m m63 → k9 = pu_kk (E.K e1) → w 0 0 m63 95 [(0, false, va_rf (some (B 0))), (1, false, .int (nI e1)), (3, false, .int (nI lk)), (4, false, .int thv), (5, false, .int dd), (6, false, .int bo), (9, false, .int (nI f1)), (10, false, .int (E.K e1))] [.int k9, va_rf (some (B 0))] := by
          intro k9 rkm63 hk9
          refine sp_iload X (pc := 95) (x := nI f1) dX12_comes_95 rfl ?_
          refine sp_callV X (pc := 97) (mc := 0) (ms := 0) (b := (B 0)) (c := 13) (r := some (B 0)) (As := [.int k9, .int (nI f1)]) (rest := []) (c_Mo_add l G _ hVm63 (f := f1) (T := T9) hN63 (fun j hj => by rcases Nat.eq_zero_or_pos j with q | q; (rw [q, W9.2.2.2.2.1]; decide); exact (W9.2.2.2.2.2.1 j q hj).2) (by omega) (Or.inl hf1) lk9.2) ok_Mo_add rfl hVm63.r.o (by decide) rfl lk_Mo_99 rfl rfl (Nat.zero_le _) (Nat.le_of_ble_eq_true rfl) (Nat.le_of_ble_eq_true rfl) (Nat.zero_le _) (Nat.zero_le _) dX12_comes_97 (sp_kI fun v97 m97 hp97 => ?_)
          obtain ⟨rfl, hVm97, k97, r97, hN97, h1297⟩ := hp97
          rw [hwu63, hk9] at hN97
          have s97 : (∀ j, m97.aI (B 12) j = if n ≤ j ∧ j < (n1 + 1) then -1 else m.aI (B 12) j) := fun j => by
            rw [h1297 j, e63, s12 j]
            by_cases q : j = n1
            · rw [if_pos q, if_pos ⟨by omega, by omega⟩]
            · rw [if_neg q]
              by_cases y : n ≤ j ∧ j < n1
              · rw [if_pos y, if_pos ⟨y.1, by omega⟩]
              · rw [if_neg y, if_neg (fun y9 => y ⟨y9.1, by omega⟩)]
          have rkm97 : sp_rk B [4, 6, 7, 8, 9, 10, 11, 12, 16, 34, 36, 37] m m97 := rkm63.trans ((r97).mono (by decide))
          refine sp_istore X (pc := 100) (lv' := [(11, false, .int (nI n1)), (0, false, va_rf (some (B 0))), (1, false, .int (nI e1)), (3, false, .int (nI lk)), (4, false, .int thv), (5, false, .int dd), (6, false, .int bo), (9, false, .int (nI f1)), (10, false, .int (E.K e1))]) dX12_comes_100  (by decide) rfl ?_
          refine sp_aload_n X (pc := 102) (r := some (B 0)) dX12_comes_102 rfl rfl ?_
          refine sp_dup X (pc := 103) dX12_comes_103 (sp_cat_rf _) ?_
          refine sp_getfield X (pc := 104) (c := 13) (i := 31) (t := 0) (a := (B 0)) (v := .int (nI (n - 4))) rfl hVm97.r.o (by decide) rfl (congrArg Value.int (hVm97.cm.trans hvm)) fl_Mo_217 dX12_comes_104 ?_
          refine sp_iload_n X (pc := 107) (x := nI lk) dX12_comes_107 rfl rfl ?_
          refine sp_iconst X (pc := 108) (v := 1) dX12_comes_108 (by decide) ?_
          refine sp_iadd X (pc := 109) dX12_comes_109 ?_
          rw [show ((nI lk) + 1) = (nI (lk + 1)) from (nI_add lk 1)]
          refine sp_iadd X (pc := 110) dX12_comes_110 ?_
          rw [show ((nI (n - 4)) + (nI (lk + 1))) = (nI (n1 + 1 - 4)) from ((nI_add (n - 4) (lk + 1)).trans (by congr 1; omega))]
          refine sp_putI X (pc := 111) (c := 13) (i := 31) (q := 863) (a := (B 0)) rfl hVm97.r.o (by decide) rfl rfl (Or.inl rfl) ⟨rfl, rfl⟩ fl_Mo_217 dX12_comes_111 ?_
          obtain ⟨m111, hm111⟩ : ∃ xm, xm = (m97.pI 863 (B 0) (nI (n1 + 1 - 4))) := ⟨_, rfl⟩
          rw [← hm111]
          have hVm111 : sp_V B m0 m111 D R l0 l1 d (n1 + 1) b p t e n1 (((PT (E.P e1)).getD ((PT (E.P e1)).length - 1) []).length) vq (nI (n1 + 1 - 4)) vl vs vA vE := by
            rw [hm111]
            exact hVm97.xm (nI (n1 + 1 - 4))
          have rkm111 : sp_rk B [4, 6, 7, 8, 9, 10, 11, 12, 16, 34, 36, 37] m m111 := by
            rw [hm111]
            exact rkm97
          have a111 : m111.aI = m97.aI := by
            rw [hm111]
            rfl
          clear hm111
          refine sp_iload X (pc := 114) (x := thv) dX12_comes_114 rfl ?_
          refine sp_iconst X (pc := 116) (v := (-1)) dX12_comes_116 (by decide) ?_
          refine sp_icmp_eq X (pc := 117) (tgt := 128) dX12_comes_117 (by decide) (fun hb117 => ?_) (fun hb117 => ?_)
          · have hth0 : th = none := by
              rcases hthv with ⟨z, -⟩ | ⟨j, y, z⟩
              · exact z
              · exact absurd (z.symm.trans hb117) (sp_nn9 (by have := (hth j y).2; omega))
            refine sp_pick X [1, 2, 5, 6, 8, 0] (lv' := [(0, false, va_rf (some (B 0))), (1, false, .int (nI e1)), (5, false, .int dd), (6, false, .int bo), (10, false, .int (E.K e1)), (11, false, .int (nI n1))]) rfl ?_
            first
              | exact cut128 n1 f1 _ T9 m97 _ rkm111 hVm111 hn1e hf1 PM W9 ((congrFun a111 (B 16)).trans (e16 _ r97)) hN97 (fun k _ _ => by rw [a111]) (fun j => by rw [a111, hth0, if_neg (by simp)]) (by rw [a111]; exact s97)
              | exact cut128 n1 f1 _ T9 m97 _ rkm111 hVm127 hn1e hf1 PM W9 ((r127 16 (by decide) (by decide)).trans (e16 _ r97)) hN97 r127 k127 s127
          · obtain ⟨j, hthj, hj⟩ : ∃ j, th = some j ∧ thv = nI j := by
              rcases hthv with ⟨-, z⟩ | z
              · exact absurd z hb117
              · exact z
            have hjn := (hth j hthj).2
            subst hj
            refine sp_aload_n X (pc := 120) (r := some (B 0)) dX12_comes_120 rfl rfl ?_
            refine sp_getfield X (pc := 121) (c := 13) (i := 7) (t := 2) (a := (B 0)) (v := va_rf (some (B 7))) rfl hVm111.r.o (by decide) rfl (congrArg va_rf hVm111.f7) fl_Mo_23 dX12_comes_121 ?_
            refine sp_iload X (pc := 124) (x := (nI j)) dX12_comes_124 rfl ?_
            refine sp_iconst X (pc := 126) (v := 1) dX12_comes_126 (by decide) ?_
            refine sp_bastore X (pc := 127) (a := (B 7)) rfl hVm111.y7 (sp_in j hVm111.l7 (by omega) (by decide)) rfl dX12_comes_127 ?_
            rw [show (nI j).toNatClampNeg = j from (nI_clamp (n := j) (by omega))]
            obtain ⟨m127, hm127⟩ : ∃ xm, xm = (m111.sI (B 7) j 1) := ⟨_, rfl⟩
            rw [← hm127]
            have hVm127 : sp_V B m0 m127 D R l0 l1 d (n1 + 1) b p t e n1 (((PT (E.P e1)).getD ((PT (E.P e1)).length - 1) []).length) vq (nI (n1 + 1 - 4)) vl vs vA vE := by
              rw [hm127]
              exact hVm111.sI 7 j _ (by decide) (by decide) (Nat.zero_le _)
            have rkm127 : sp_rk B [4, 6, 7, 8, 9, 10, 11, 12, 16, 34, 36, 37] m m127 := by
              rw [hm127]
              exact rkm111.sI hVm111.r 7 _ _ (by decide) (by decide)
            have k127 : ∀ i, m127.aI (B 7) i = if th = some i then 1 else m97.aI (B 7) i := by
              rw [hm127]
              intro i
              rw [sp_sI_aI, a111]
              by_cases q : i = j
              · rw [if_pos ⟨rfl, q⟩, if_pos (by rw [hthj, q])]
              · rw [if_neg (fun z => q z.2), if_neg (fun z => q (by rw [hthj] at z; exact (Option.some.inj z).symm))]
            have r127 : sp_rk B [7] m97 m127 := by
              rw [hm127]
              exact (show sp_rk B [7] m97 m111 from fun k _ _ => by rw [a111]).sI hVm111.r 7 _ _ (by decide) (by decide)
            have s127 : (∀ j, m127.aI (B 12) j = if n ≤ j ∧ j < (n1 + 1) then -1 else m.aI (B 12) j) := by
              rw [hm127]
              intro i
              rw [sp_sI_aI, if_neg (fun z => hVm111.ne 12 7 (by decide) (by decide) (by decide) z.1), a111]
              exact s97 i
            clear hm127
            refine sp_pick X [1, 2, 5, 6, 8, 0] (lv' := [(0, false, va_rf (some (B 0))), (1, false, .int (nI e1)), (5, false, .int dd), (6, false, .int bo), (10, false, .int (E.K e1)), (11, false, .int (nI n1))]) rfl ?_
            first
              | exact cut128 n1 f1 _ T9 m97 _ rkm127 hVm111 hn1e hf1 PM W9 ((congrFun a111 (B 16)).trans (e16 _ r97)) hN97 (fun k _ _ => by rw [a111]) (fun j => by rw [a111, hth0, if_neg (by simp)]) (by rw [a111]; exact s97)
              | exact cut128 n1 f1 _ T9 m97 _ rkm127 hVm127 hn1e hf1 PM W9 ((r127 16 (by decide) (by decide)).trans (e16 _ r97)) hN97 r127 k127 s127
        refine sp_aload_n X (pc := 74) (r := some (B 0)) dX12_comes_74 rfl rfl ?_
        refine sp_iload X (pc := 75) (x := (E.K e1)) dX12_comes_75 rfl ?_
        refine sp_if_ne X (pc := 77) (tgt := 84) dX12_comes_77 (by decide) (fun hb77 => ?_) (fun hb77 => ?_)
        · refine sp_iload X (pc := 84) (x := (E.K e1)) dX12_comes_84 rfl ?_
          refine sp_iconst X (pc := 86) (v := 2) dX12_comes_86 (by decide) ?_
          refine sp_icmp_ne X (pc := 87) (tgt := 94) dX12_comes_87 (by decide) (fun hb87 => ?_) (fun hb87 => ?_)
          · refine sp_iconst X (pc := 94) (v := 1) dX12_comes_94 (by decide) ?_
            refine sp_pick X [1, 2, 3, 4, 5, 6, 9, 0] (lv' := [(0, false, va_rf (some (B 0))), (1, false, .int (nI e1)), (3, false, .int (nI lk)), (4, false, .int thv), (5, false, .int dd), (6, false, .int bo), (9, false, .int (nI f1)), (10, false, .int (E.K e1))]) rfl ?_
            first
              | exact cut95 0 rkm63 (by rw [hb77]; exact pu_kk0.symm)
              | exact cut95 2 rkm63 (by rw [hb87]; exact pu_kk2.symm)
              | exact cut95 1 rkm63 (by
                  rcases hkr with z | z | z | z | z
                  · exact absurd z hb77
                  · rw [z]; exact pu_kk1.symm
                  · exact absurd z hb87
                  · rw [z]; exact pu_kk3.symm
                  · exact absurd z hk4)
          · refine sp_iconst X (pc := 90) (v := 2) dX12_comes_90 (by decide) ?_
            refine sp_goto X (pc := 91) (tgt := 95) dX12_comes_91 (by decide) ?_
            refine sp_pick X [1, 2, 3, 4, 5, 6, 9, 0] (lv' := [(0, false, va_rf (some (B 0))), (1, false, .int (nI e1)), (3, false, .int (nI lk)), (4, false, .int thv), (5, false, .int dd), (6, false, .int bo), (9, false, .int (nI f1)), (10, false, .int (E.K e1))]) rfl ?_
            first
              | exact cut95 0 rkm63 (by rw [hb77]; exact pu_kk0.symm)
              | exact cut95 2 rkm63 (by rw [hb87]; exact pu_kk2.symm)
              | exact cut95 1 rkm63 (by
                  rcases hkr with z | z | z | z | z
                  · exact absurd z hb77
                  · rw [z]; exact pu_kk1.symm
                  · exact absurd z hb87
                  · rw [z]; exact pu_kk3.symm
                  · exact absurd z hk4)
        · refine sp_iconst X (pc := 80) (v := 0) dX12_comes_80 (by decide) ?_
          refine sp_goto X (pc := 81) (tgt := 95) dX12_comes_81 (by decide) ?_
          refine sp_pick X [1, 2, 3, 4, 5, 6, 9, 0] (lv' := [(0, false, va_rf (some (B 0))), (1, false, .int (nI e1)), (3, false, .int (nI lk)), (4, false, .int thv), (5, false, .int dd), (6, false, .int bo), (9, false, .int (nI f1)), (10, false, .int (E.K e1))]) rfl ?_
          first
            | exact cut95 0 rkm63 (by rw [hb77]; exact pu_kk0.symm)
            | exact cut95 2 rkm63 (by rw [hb87]; exact pu_kk2.symm)
            | exact cut95 1 rkm63 (by
                rcases hkr with z | z | z | z | z
                · exact absurd z hb77
                · rw [z]; exact pu_kk1.symm
                · exact absurd z hb87
                · rw [z]; exact pu_kk3.symm
                · exact absurd z hk4)
      · have hil : i < lk := by
          have := sp_nlt hb32 (by omega)
          omega
        refine sp_aload_n X (pc := 35) (r := some (B 0)) dX12_comes_35 rfl rfl ?_
        refine sp_iload X (pc := 36) (x := nI (E.P e1)) dX12_comes_36 rfl ?_
        refine sp_iload X (pc := 38) (x := nI ((PT (E.P e1)).length - 1 - lk + i)) dX12_comes_38 rfl ?_
        refine sp_callV X (pc := 40) (mc := 0) (ms := 0) (b := (B 0)) (c := 13) (r := some (B 0)) (As := [.int (nI (E.P e1)), .int (nI ((PT (E.P e1)).length - 1 - lk + i))]) (rest := []) (c_Mo_partWord l G _ hVm1 (k := (PT (E.P e1)).length - 1 - lk + i) (hP.rk hr1 (by decide) (by decide) (by decide)) hPl hgp (by omega)) ok_Mo_partWord rfl hVm1.r.o (by decide) rfl lk_Mo_189 rfl rfl (Nat.zero_le _) (Nat.le_of_ble_eq_true rfl) (Nat.le_of_ble_eq_true rfl) (Nat.zero_le _) (Nat.zero_le _) dX12_comes_40 (sp_kV fun m40 hp40 => ?_)
        obtain ⟨hVm40, hwd40, hwu40⟩ := hp40
        have hr40 := hr1.trans ((sp_rk.wd hwd40 hVm1.r).mono (by decide : ∀ k, k ∈ [34] → k ∈ [4, 8, 9, 10, 11, 12, 34]))
        have hN40 := N9.rk (sp_rk.wd hwd40 hVm1.r) (by decide)
        have lk9 := lj.2.2 ((PT (E.P e1)).length - 1 - lk + i) (by omega)
        have e40 : m40.aI (B 12) = m1.aI (B 12) := hwd40.2 _ (hVm1.ne 12 34 (by decide) (by decide) (by decide))
        have rkm40 : sp_rk B [4, 6, 7, 8, 9, 10, 11, 12, 16, 34, 36, 37] m m40 := rkm1.trans ((sp_rk.wd hwd40 hVm1.r).mono (by decide))
        refine sp_aload_n X (pc := 43) (r := some (B 0)) dX12_comes_43 rfl rfl ?_
        refine sp_iconst X (pc := 44) (v := 0) dX12_comes_44 (by decide) ?_
        refine sp_iload X (pc := 45) (x := nI f1) dX12_comes_45 rfl ?_
        refine sp_callV X (pc := 47) (mc := 0) (ms := 0) (b := (B 0)) (c := 13) (r := some (B 0)) (As := [.int 0, .int (nI f1)]) (rest := []) (c_Mo_add l G _ hVm40 (f := f1) (T := T9) hN40 (fun j hj => by rcases Nat.eq_zero_or_pos j with q | q; (rw [q, W9.2.2.2.2.1]; decide); exact (W9.2.2.2.2.2.1 j q hj).2) (by omega) (Or.inl hf1) lk9.2) ok_Mo_add rfl hVm40.r.o (by decide) rfl lk_Mo_99 rfl rfl (Nat.zero_le _) (Nat.le_of_ble_eq_true rfl) (Nat.le_of_ble_eq_true rfl) (Nat.zero_le _) (Nat.zero_le _) dX12_comes_47 (sp_kI fun v47 m47 hp47 => ?_)
        obtain ⟨rfl, hV47, k47, r47, hN47, h1247⟩ := hp47
        rw [hwu40] at hN47
        have hVm47 : sp_V B m0 m47 D R l0 l1 d (n1 + 1) b p t e (n1 + 1) (((PT (E.P e1)).getD ((PT (E.P e1)).length - 1 - lk + i) []).length) vq vm vl vs vA vE := hV47.tL (fun j q1 q2 q3 => by
          obtain rfl : j = n1 := by omega
          rw [k47] at q3
          exact absurd q3 (by decide))
        have hr47 := hr40.trans (r47.mono (by decide : ∀ k, k ∈ [4, 8, 9, 10, 11, 12] → k ∈ [4, 8, 9, 10, 11, 12, 34]))
        have hN48 : sp_mN m47 B (n1 + 1) (n1 + 1) (pu_add T9 n1 0 0 f1 0 ((PT (E.P e1)).getD ((PT (E.P e1)).length - 1 - lk + i) [])) := ⟨(hN47 0).1, (hN47 0).2.1, fun j hj hk => by
          by_cases q : j = n1
          · exact absurd (show (pu_add T9 n1 0 0 f1 0 ((PT (E.P e1)).getD ((PT (E.P e1)).length - 1 - lk + i) [])).k j = 0 from if_pos q) hk
          · exact (hN47 0).2.2 j (by omega) hk⟩
        have h1248 : (∀ j, m47.aI (B 12) j = if n ≤ j ∧ j < (n1 + 1) then -1 else m.aI (B 12) j) := fun j => by
          rw [h1247 j, e40, s12 j]
          by_cases q : j = n1
          · rw [if_pos q, if_pos ⟨by omega, by omega⟩]
          · rw [if_neg q]
            by_cases y : n ≤ j ∧ j < n1
            · rw [if_pos y, if_pos ⟨y.1, by omega⟩]
            · rw [if_neg y, if_neg (fun y9 => y ⟨y9.1, by omega⟩)]
        have rkm47 : sp_rk B [4, 6, 7, 8, 9, 10, 11, 12, 16, 34, 36, 37] m m47 := rkm40.trans ((r47).mono (by decide))
        refine sp_istore X (pc := 50) (lv' := [(9, false, .int (nI n1)), (0, false, va_rf (some (B 0))), (1, false, .int (nI e1)), (3, false, .int (nI lk)), (4, false, .int thv), (5, false, .int dd), (6, false, .int bo), (7, false, .int (nI (E.P e1))), (8, false, .int (nI ((PT (E.P e1)).length - 1))), (10, false, .int (nI ((PT (E.P e1)).length - 1 - lk + i)))]) dX12_comes_50  (by decide) rfl ?_
        refine sp_iinc X (pc := 52) (v := (nI (((PT (E.P e1)).length - 1 - lk + i) + 1))) (lv' := [(10, false, .int (nI (((PT (E.P e1)).length - 1 - lk + i) + 1))), (9, false, .int (nI n1)), (0, false, va_rf (some (B 0))), (1, false, .int (nI e1)), (3, false, .int (nI lk)), (4, false, .int thv), (5, false, .int dd), (6, false, .int bo), (7, false, .int (nI (E.P e1))), (8, false, .int (nI ((PT (E.P e1)).length - 1)))]) dX12_comes_52 rfl ((sp_i1 ((PT (E.P e1)).length - 1 - lk + i))) (by decide) rfl ?_
        refine sp_goto X (pc := 55) (tgt := 28) dX12_comes_55 (by decide) ?_
        refine sp_pick X [2, 3, 4, 5, 6, 7, 8, 9, 1, 0] (lv' := [(0, false, va_rf (some (B 0))), (1, false, .int (nI e1)), (3, false, .int (nI lk)), (4, false, .int thv), (5, false, .int dd), (6, false, .int bo), (7, false, .int (nI (E.P e1))), (8, false, .int (nI ((PT (E.P e1)).length - 1))), (9, false, .int (nI n1)), (10, false, .int (nI (((PT (E.P e1)).length - 1 - lk + i) + 1)))]) rfl ?_
        obtain ⟨d9, hd9⟩ : ∃ d9, lk - i = d9 + 1 := ⟨lk - i - 1, by omega⟩
        rw [hd9, pu_drop (by omega), show (PT (E.P e1)).length - 1 - (d9 + 1) = (PT (E.P e1)).length - 1 - lk + i by omega] at PM9
        exact ih _ (by omega) (i + 1) n1 (n1 + 1) _ _ _ rkm47 (by omega) (by omega) (by omega) hVm47 hr47 hN48 (W9.add (by omega) hf1 (Or.inl rfl) lk9 hfi9) (pu_ins.new W9 hf1 hfi9) (by rw [show lk - (i + 1) = d9 by omega]; exact PM9) h1248 rfl
  refine sp_pick X [4, 5, 7, 8, 9, 10, 3, 2, 1, 0] (lv' := [(0, false, va_rf (some (B 0))), (1, false, .int (nI e1)), (3, false, .int (nI lk)), (4, false, .int thv), (5, false, .int dd), (6, false, .int bo), (7, false, .int (nI (E.P e1))), (8, false, .int (nI ((PT (E.P e1)).length - 1))), (9, false, .int (nI f)), (10, false, .int (nI ((PT (E.P e1)).length - 1 - lk)))]) rfl ?_
  exact loop28 _ 0 f n _ Z.T _ rkm (Nat.zero_le _) rfl hf hVm (sp_rk.refl _ _ _) hMN hW hfi (by rw [Nat.sub_zero]) (fun j => by rw [if_neg (by omega)]) rfl

theorem pu_out.some3 {Z : pu_Z} {kd va dd : Int32} {sz : Int64} {us : List (List Int32)} {tg f lk j : Nat} {th sh : Option Nat} (hk : ¬ kd = 0) : pu_out Z kd va sz us tg f lk th (some j) sh dd = Z := by
  show (Z.1, Z.2.1, Z.2.2.1, Z.2.2.2.1, Z.2.2.2.2.1, Z.2.2.2.2.2.1, if kd = 0 then _ else Z.2.2.2.2.2.2) = Z
  rw [if_neg hk]
  rfl
theorem sp_mZ.note {m m' : sp_M} {B : Nat → Nat} {n b j : Nat} {vq vm va dd : Int32} {vs sz : Int64} {vA : Nat → Int64} {Z : pu_Z} {us : List (List Int32)} {tg f lk : Nat} {th sh : Option Nat} (h : sp_mZ m B n b vq vm vs vA Z) (hR : sp_R0 m B) (hn : ∀ a, a ≠ B 12 → m'.aI a = m.aI a) (h12 : ∀ i, m'.aI (B 12) i = if i = j then va else m.aI (B 12) i) (hva : va = 0 ∨ va = 1) : sp_mZ m' B n b (vq + 1) vm vs vA (pu_out Z 0 va sz us tg f lk th (some j) sh dd) := by
  have hrk : sp_rk B [12] m m' := sp_rk.of1 (k := 12) hn hR (by decide)
  obtain ⟨h1, h2, h3, h4, h5, h6⟩ := h
  have hq : (pu_out Z 0 va sz us tg f lk th (some j) sh dd).q = Z.q ++ [(j, if va = 1 then 1 else 0)] := by
    show (if (0 : Int32) = 0 then Z.q ++ [(j, if va = 1 then (1 : Int32) else 0)] else Z.q) = _
    exact if_pos rfl
  refine ⟨h1, h2.rk hrk (by decide), ?_, fun i hi => ?_, ?_, h6⟩
  · rw [hrk 16 (by decide) (by decide)]; exact h3
  · rw [hq, pu_last.snoc, h12 i]
    by_cases q : i = j
    · rw [if_pos q, if_pos q]
      rcases hva with y | y
      · rw [y, if_neg (by decide)]; rfl
      · rw [y, if_pos rfl]; rfl
    · rw [if_neg q, if_neg q]
      exact h4 i hi
  · rw [hq, List.length_append, List.length_singleton, h5]
    exact nI_1 _
set_option maxHeartbeats 4000000 in
set_option maxRecDepth 20000 in
theorem c_Mo_takes (l : Launch) (G : sp_G) (m : sp_M) {B : Nat → Nat} {m0 : sp_M} {D : Nat → Int32} {R : Int32} {l0 l1 : Int64} {d n b p t e ws : Nat} {vq vm vl : Int32} {vs : Int64} {vA vE : Nat → Int64} (hVm : sp_V B m0 m D R l0 l1 d n b p t e n ws vq vm vl vs vA vE)  {Z : pu_Z} (hMZ : sp_mZ m B n b vq vm vs vA Z) (hZW : pu_ZW t Z) {PT : Nat → List (List Int32)} (hP : sp_mP m B p PT) (hPl : pu_P p PT) {E : pu_E} (hE : sp_mE m B e vE E) (hEW : pu_EW p t e E) {TT : Nat → List Int32} (hMT : sp_mT m B t TT) (hTl : pu_Tt t TT) (hTU : pu_TU R t TT) {e1 : Nat} {rl : Int32} (he1 : e1 < e) : sp_C l G M_Mo_takes 0 0 [.ref (B 0), .int (nI e1), .int rl] m (sp_oI fun v m' => ∃ n' b' w' vq' vm' vl' vs' vA' Z', sp_V B m0 m' D R l0 l1 d n' b' p t e n' w' vq' vm' vl' vs' vA' vE ∧ sp_mZ m' B n' b' vq' vm' vs' vA' Z' ∧ sp_rk B [4, 6, 7, 8, 9, 10, 11, 12, 16, 34, 36, 37] m m' ∧ ∃ v1 f lk th al sh dd, pu_j0 R Z PT TT E l0 l1 e1 v1 f lk th al sh dd ∧ ((¬ v1 = 0 ∧ v = v1 ∧ Z' = Z ∧ vl' = (if v1 = -20 ∧ ¬ rl = 0 then vl + 1 else vl)) ∨ (v1 = 0 ∧ vl' = vl ∧ ((¬ rl = 0 ∧ v = nI (pu_nn Z lk al) ∧ Z' = pu_out Z (E.K e1) (E.W e1) (E.S e1) (PT (E.P e1)) (E.X e1) f lk th al sh dd) ∨ (rl = 0 ∧ Z' = Z ∧ ((al = none ∧ v = 0) ∨ ∃ j, al = some j ∧ v = nI j)))))) := by
  refine sp_enter (lv0 := [(0, false, va_rf (some (B 0))), (1, false, .int (nI e1)), (2, false, .int rl)]) "SafePathsModel" false rfl (by decide) (fun h => by cases h) (Nat.le_of_ble_eq_true rfl) rfl ?_
  intro w X
  have bd := hVm.hd
  have bn := hVm.hn
  have bb := hVm.hb
  have bp := hVm.hp
  have bt := hVm.ht
  have be := hVm.he
  have bw := hVm.hw
  have bL := hVm.hL
  have rkm : sp_rk B [4, 6, 7, 8, 9, 10, 11, 12, 16, 34, 36, 37] m m := sp_rk.refl _ _ _
  obtain ⟨⟨hZn, hZb⟩, hMN, hMB, hMQ, hvq, hvm, hvs⟩ := id hMZ
  have hW : pu_W n b t Z.T := by rw [hZn, hZb]; exact hZW.1
  have h4 := hW.1.1
  obtain ⟨hgp, hx2, hx3, hx0, -⟩ := (hEW e1 he1).2
  have hkr := (hEW e1 he1).1
  obtain ⟨c1, c2, c3, c4⟩ := hE e1 he1
  have lj := hPl _ hgp
  have hk1 : Z.T.k 1 = 0 := hW.2.2.2.2.2.2.2.1.2.1
  have hJ0e : ∀ v1 f lk th al sh dd, pu_jd R n Z.T (pu_tp R TT) (pu_tf R TT) (E.K e1) (E.X e1) (PT (E.X e1)) (PT (E.P e1)) (fun lk v => pu_lm n (n - 4) lk (E.K e1) (E.S e1) Z.z l0 l1 v) v1 f lk th al sh dd → pu_j0 R Z PT TT E l0 l1 e1 v1 f lk th al sh dd := fun v1 f lk th al sh dd h => by
    unfold pu_j0
    rw [← hZn]
    exact h
  have cut253 : ∀ (f lk w2 : Nat) (th sh : Option Nat) (thv dd bo : Int32) (m2 : sp_M), sp_rk B [4, 6, 7, 8, 9, 10, 11, 12, 16, 34, 36, 37] m m2 → sp_V B m0 m2 D R l0 l1 d n b p t e n w2 vq vm vl vs vA vE → f < n → lk < (PT (E.P e1)).length → pu_ins Z.T.o f → ((th = none ∧ thv = -1) ∨ ∃ j, th = some j ∧ thv = nI j) → (∀ j, th = some j → 4 ≤ j ∧ j < n) → (∀ v1, pu_lm n (n - 4) lk (E.K e1) (E.S e1) Z.z l0 l1 v1 → pu_j0 R Z PT TT E l0 l1 e1 v1 f lk th none sh dd) → ¬ E.K e1 = 4 → sp_b01 dd → (¬ E.K e1 = 2 → dd = 0) → (E.K e1 = 3 → ∃ q, sh = some q ∧ q < b ∧ bo = nI q) → sp_rk B [34, 36, 37] m m2 → w 0 0 m2 253 [(0, false, va_rf (some (B 0))), (1, false, .int (nI e1)), (2, false, .int rl), (5, false, .int (nI f)), (6, false, .int (nI lk)), (7, false, .int thv), (8, false, .int (E.K e1)), (9, false, .int dd), (10, false, .int bo)] [] := by
    intro f lk w2 th sh thv dd bo m2 rkm2 hVm2 hfn hlq hfi hthv hth hJl hk4 hdd hdd0 hsh hr2
    have hMZ2 := hMZ.rk hr2 (by decide)
    have rk2 : sp_rk B [4, 6, 7, 8, 9, 10, 11, 12, 16, 34, 36, 37] m m2 := hr2.mono (by decide)
    have hz4 := hW.1.1
    refine sp_aload_n X (pc := 253) (r := some (B 0)) dX12_takes_253 rfl rfl ?_
    refine sp_getfield X (pc := 254) (c := 13) (i := 31) (t := 0) (a := (B 0)) (v := .int (nI (n - 4))) rfl hVm2.r.o (by decide) rfl (congrArg Value.int (hVm2.cm.trans hvm)) fl_Mo_217 dX12_takes_254 ?_
    refine sp_iload X (pc := 257) (x := nI lk) dX12_takes_257 rfl ?_
    refine sp_iadd X (pc := 259) dX12_takes_259 ?_
    rw [show ((nI (n - 4)) + (nI lk)) = (nI (n - 4 + lk)) from (nI_add (n - 4) lk)]
    refine sp_i2l X (pc := 260) dX12_takes_260 ?_
    refine sp_lconst X (pc := 261) (v := 1) dX12_takes_261 (by decide) ?_
    refine sp_ladd X (pc := 262) dX12_takes_262 ?_
    rw [show (((nI (n - 4 + lk)).toInt64) + 1) = ((nI (n - 4 + (lk + 1))).toInt64) from ((sp_t64 (by omega)).trans (by rw [Nat.add_assoc]))]
    refine sp_aload_n X (pc := 263) (r := some (B 0)) dX12_takes_263 rfl rfl ?_
    refine sp_getfield X (pc := 264) (c := 13) (i := 29) (t := 1) (a := (B 0)) (v := .long l0) rfl hVm2.r.o (by decide) rfl (congrArg Value.long hVm2.c0) fl_Mo_77 dX12_takes_264 ?_
    refine sp_lcmp X (pc := 267) dX12_takes_267 ?_
    refine sp_if_gt X (pc := 268) (tgt := 296) dX12_takes_268 (by decide) (fun hb268 => ?_) (fun hb268 => ?_)
    · have hl0 : ¬ (nI (n - 4 + (lk + 1))).toInt64 ≤ l0 := pu_cgt (Int32.not_le.mpr hb268)
      refine sp_bipush X (pc := 296) (v := (-21)) dX12_takes_296 (by decide) ?_
      refine sp_ireturn X (pc := 298) dX12_takes_298 rfl ⟨_, rfl, ?_⟩
      have hlm : pu_lm n (n - 4) lk (E.K e1) (E.S e1) Z.z l0 l1 (-21) := by
        first
          | exact Or.inl ⟨Or.inl hl0, rfl⟩
          | exact Or.inl ⟨Or.inr ⟨hb274, hl1⟩, rfl⟩
      exact ⟨_, _, _, _, _, _, _, _, Z, hVm2, hMZ2, rk2, _, f, lk, th, none, sh, dd, hJl _ hlm, Or.inl ⟨by decide, rfl, rfl, (if_neg (fun z => absurd z.1 (by decide))).symm⟩⟩
    · have hl0 : (nI (n - 4 + (lk + 1))).toInt64 ≤ l0 := pu_cle (Int32.not_lt.mp hb268)
      refine sp_iload X (pc := 271) (x := (E.K e1)) dX12_takes_271 rfl ?_
      refine sp_iconst X (pc := 273) (v := 1) dX12_takes_273 (by decide) ?_
      refine sp_icmp_ne X (pc := 274) (tgt := 299) dX12_takes_274 (by decide) (fun hb274 => ?_) (fun hb274 => ?_)
      · have hl1 : E.K e1 = 1 → Z.z + E.S e1 ≤ l1 := fun z => absurd z hb274
        refine sp_aload_n X (pc := 299) (r := some (B 0)) dX12_takes_299 rfl rfl ?_
        refine sp_getfield X (pc := 300) (c := 13) (i := 3) (t := 0) (a := (B 0)) (v := .int (nI n)) rfl hVm2.r.o (by decide) rfl (congrArg Value.int hVm2.cn) fl_Mo_115 dX12_takes_300 ?_
        refine sp_iload X (pc := 303) (x := nI lk) dX12_takes_303 rfl ?_
        refine sp_iadd X (pc := 305) dX12_takes_305 ?_
        rw [show ((nI n) + (nI lk)) = (nI (n + lk)) from (nI_add n lk)]
        refine sp_iconst X (pc := 306) (v := 1) dX12_takes_306 (by decide) ?_
        refine sp_iadd X (pc := 307) dX12_takes_307 ?_
        rw [show ((nI (n + lk)) + 1) = (nI ((n + lk) + 1)) from (nI_add (n + lk) 1)]
        refine sp_sipush X (pc := 308) (v := 200) dX12_takes_308 (by decide) ?_
        refine sp_icmp_le X (pc := 311) (tgt := 317) dX12_takes_311 (by decide) (fun hb311 => ?_) (fun hb311 => ?_)
        · have h200 : n + (lk + 1) ≤ 200 := by
            have := sp_nge (b := n + lk + 1) (a := 200) hb311 (by omega) (by omega)
            omega
          have hj9 := hJl 0 (Or.inr ⟨⟨hl0, hl1⟩, Or.inr ⟨h200, rfl⟩⟩)
          refine sp_iload_n X (pc := 317) (x := rl) dX12_takes_317 rfl rfl ?_
          refine sp_if_eq X (pc := 318) (tgt := 339) dX12_takes_318 (by decide) (fun hb318 => ?_) (fun hb318 => ?_)
          · refine sp_iconst X (pc := 339) (v := 0) dX12_takes_339 (by decide) ?_
            refine sp_ireturn X (pc := 340) dX12_takes_340 rfl ⟨_, rfl, ?_⟩
            first
              | exact ⟨_, _, _, _, _, _, _, _, _, hVm333, hMZ333, rkm333, 0, f, lk, th, none, sh, dd, hj9, Or.inr ⟨rfl, rfl, Or.inl ⟨hb318, by rw [hZn]; rfl, rfl⟩⟩⟩
              | exact ⟨_, _, _, _, _, _, _, _, Z, hVm2, hMZ2, rk2, 0, f, lk, th, none, sh, dd, hj9, Or.inr ⟨rfl, rfl, Or.inr ⟨hb318, rfl, Or.inl ⟨rfl, rfl⟩⟩⟩⟩
          · refine sp_aload_n X (pc := 321) (r := some (B 0)) dX12_takes_321 rfl rfl ?_
            refine sp_iload_n X (pc := 322) (x := nI e1) dX12_takes_322 rfl rfl ?_
            refine sp_iload X (pc := 323) (x := nI f) dX12_takes_323 rfl ?_
            refine sp_iload X (pc := 325) (x := nI lk) dX12_takes_325 rfl ?_
            refine sp_iload X (pc := 327) (x := thv) dX12_takes_327 rfl ?_
            refine sp_iload X (pc := 329) (x := dd) dX12_takes_329 rfl ?_
            refine sp_iload X (pc := 331) (x := bo) dX12_takes_331 rfl ?_
            refine sp_callV X (pc := 333) (mc := 0) (ms := 0) (b := (B 0)) (c := 13) (r := some (B 0)) (As := [.int (nI e1), .int (nI f), .int (nI lk), .int thv, .int dd, .int bo]) (rest := []) (c_Mo_comes l G _ (th := th) (sh := sh) hVm2 hMZ2 hZW (hP.rk hr2 (by decide) (by decide) (by decide)) hPl (hE.rk hr2 (by decide) (by decide) (by decide)) hEW he1 hfn (by omega) hlq hthv hth hfi hdd hdd0 hk4 hsh) ok_Mo_comes rfl hVm2.r.o (by decide) rfl lk_Mo_223 rfl rfl (Nat.zero_le _) (Nat.le_of_ble_eq_true rfl) (Nat.le_of_ble_eq_true rfl) (Nat.zero_le _) (Nat.zero_le _) dX12_takes_333 (sp_kI fun v333 m333 hp333 => ?_)
            obtain ⟨rfl, n333, b333, w333, vq333, vm333, vs333, vA333, hVm333, hMZ333, hr333⟩ := hp333
            have rkm333 : sp_rk B [4, 6, 7, 8, 9, 10, 11, 12, 16, 34, 36, 37] m m333 := rkm2.trans ((hr333).mono (by decide))
            refine sp_goto X (pc := 336) (tgt := 340) dX12_takes_336 (by decide) ?_
            refine sp_ireturn X (pc := 340) dX12_takes_340 rfl ⟨_, rfl, ?_⟩
            first
              | exact ⟨_, _, _, _, _, _, _, _, _, hVm333, hMZ333, rkm333, 0, f, lk, th, none, sh, dd, hj9, Or.inr ⟨rfl, rfl, Or.inl ⟨hb318, by rw [hZn]; rfl, rfl⟩⟩⟩
              | exact ⟨_, _, _, _, _, _, _, _, Z, hVm2, hMZ2, rk2, 0, f, lk, th, none, sh, dd, hj9, Or.inr ⟨rfl, rfl, Or.inr ⟨hb318, rfl, Or.inl ⟨rfl, rfl⟩⟩⟩⟩
        · have h200 : 200 < n + (lk + 1) := by
            have := sp_nlt (b := n + lk + 1) (a := 200) hb311 (by omega)
            omega
          refine sp_bipush X (pc := 314) (v := (-6)) dX12_takes_314 (by decide) ?_
          refine sp_ireturn X (pc := 316) dX12_takes_316 rfl ⟨_, rfl, ?_⟩
          exact ⟨_, _, _, _, _, _, _, _, Z, hVm2, hMZ2, rk2, _, f, lk, th, none, sh, dd, hJl _ (Or.inr ⟨⟨hl0, hl1⟩, Or.inl ⟨h200, rfl⟩⟩), Or.inl ⟨by decide, rfl, rfl, (if_neg (fun z => absurd z.1 (by decide))).symm⟩⟩
      · refine sp_aload_n X (pc := 277) (r := some (B 0)) dX12_takes_277 rfl rfl ?_
        refine sp_getfield X (pc := 278) (c := 13) (i := 32) (t := 1) (a := (B 0)) (v := .long Z.z) rfl hVm2.r.o (by decide) rfl (congrArg Value.long (hVm2.cs.trans hvs)) fl_Mo_220 dX12_takes_278 ?_
        refine sp_aload_n X (pc := 281) (r := some (B 0)) dX12_takes_281 rfl rfl ?_
        refine sp_getfield X (pc := 282) (c := 13) (i := 28) (t := 2) (a := (B 0)) (v := va_rf (some (B 28))) rfl hVm2.r.o (by decide) rfl (congrArg va_rf hVm2.f28) fl_Mo_72 dX12_takes_282 ?_
        refine sp_iload_n X (pc := 285) (x := nI e1) dX12_takes_285 rfl rfl ?_
        refine sp_laload X (pc := 286) (a := (B 28)) rfl hVm2.y28 (sp_in e1 hVm2.l28 (by omega) (by decide)) dX12_takes_286 ?_
        rw [show (m2.aL (B 28) (nI e1).toNatClampNeg) = (m2.aL (B 28) e1) from (congrArg _ (nI_clamp (n := e1) (by omega)))]
        rw [show (m2.aL (B 28) e1) = (E.S e1) from ((congrFun hVm2.rE e1).trans c4)]
        refine sp_ladd X (pc := 287) dX12_takes_287 ?_
        refine sp_aload_n X (pc := 288) (r := some (B 0)) dX12_takes_288 rfl rfl ?_
        refine sp_getfield X (pc := 289) (c := 13) (i := 30) (t := 1) (a := (B 0)) (v := .long l1) rfl hVm2.r.o (by decide) rfl (congrArg Value.long hVm2.c1) fl_Mo_83 dX12_takes_289 ?_
        refine sp_lcmp X (pc := 292) dX12_takes_292 ?_
        refine sp_if_le X (pc := 293) (tgt := 299) dX12_takes_293 (by decide) (fun hb293 => ?_) (fun hb293 => ?_)
        · have hl1 : E.K e1 = 1 → Z.z + E.S e1 ≤ l1 := fun _ => pu_cle hb293
          refine sp_aload_n X (pc := 299) (r := some (B 0)) dX12_takes_299 rfl rfl ?_
          refine sp_getfield X (pc := 300) (c := 13) (i := 3) (t := 0) (a := (B 0)) (v := .int (nI n)) rfl hVm2.r.o (by decide) rfl (congrArg Value.int hVm2.cn) fl_Mo_115 dX12_takes_300 ?_
          refine sp_iload X (pc := 303) (x := nI lk) dX12_takes_303 rfl ?_
          refine sp_iadd X (pc := 305) dX12_takes_305 ?_
          rw [show ((nI n) + (nI lk)) = (nI (n + lk)) from (nI_add n lk)]
          refine sp_iconst X (pc := 306) (v := 1) dX12_takes_306 (by decide) ?_
          refine sp_iadd X (pc := 307) dX12_takes_307 ?_
          rw [show ((nI (n + lk)) + 1) = (nI ((n + lk) + 1)) from (nI_add (n + lk) 1)]
          refine sp_sipush X (pc := 308) (v := 200) dX12_takes_308 (by decide) ?_
          refine sp_icmp_le X (pc := 311) (tgt := 317) dX12_takes_311 (by decide) (fun hb311 => ?_) (fun hb311 => ?_)
          · have h200 : n + (lk + 1) ≤ 200 := by
              have := sp_nge (b := n + lk + 1) (a := 200) hb311 (by omega) (by omega)
              omega
            have hj9 := hJl 0 (Or.inr ⟨⟨hl0, hl1⟩, Or.inr ⟨h200, rfl⟩⟩)
            refine sp_iload_n X (pc := 317) (x := rl) dX12_takes_317 rfl rfl ?_
            refine sp_if_eq X (pc := 318) (tgt := 339) dX12_takes_318 (by decide) (fun hb318 => ?_) (fun hb318 => ?_)
            · refine sp_iconst X (pc := 339) (v := 0) dX12_takes_339 (by decide) ?_
              refine sp_ireturn X (pc := 340) dX12_takes_340 rfl ⟨_, rfl, ?_⟩
              first
                | exact ⟨_, _, _, _, _, _, _, _, _, hVm333, hMZ333, rkm333, 0, f, lk, th, none, sh, dd, hj9, Or.inr ⟨rfl, rfl, Or.inl ⟨hb318, by rw [hZn]; rfl, rfl⟩⟩⟩
                | exact ⟨_, _, _, _, _, _, _, _, Z, hVm2, hMZ2, rk2, 0, f, lk, th, none, sh, dd, hj9, Or.inr ⟨rfl, rfl, Or.inr ⟨hb318, rfl, Or.inl ⟨rfl, rfl⟩⟩⟩⟩
            · refine sp_aload_n X (pc := 321) (r := some (B 0)) dX12_takes_321 rfl rfl ?_
              refine sp_iload_n X (pc := 322) (x := nI e1) dX12_takes_322 rfl rfl ?_
              refine sp_iload X (pc := 323) (x := nI f) dX12_takes_323 rfl ?_
              refine sp_iload X (pc := 325) (x := nI lk) dX12_takes_325 rfl ?_
              refine sp_iload X (pc := 327) (x := thv) dX12_takes_327 rfl ?_
              refine sp_iload X (pc := 329) (x := dd) dX12_takes_329 rfl ?_
              refine sp_iload X (pc := 331) (x := bo) dX12_takes_331 rfl ?_
              refine sp_callV X (pc := 333) (mc := 0) (ms := 0) (b := (B 0)) (c := 13) (r := some (B 0)) (As := [.int (nI e1), .int (nI f), .int (nI lk), .int thv, .int dd, .int bo]) (rest := []) (c_Mo_comes l G _ (th := th) (sh := sh) hVm2 hMZ2 hZW (hP.rk hr2 (by decide) (by decide) (by decide)) hPl (hE.rk hr2 (by decide) (by decide) (by decide)) hEW he1 hfn (by omega) hlq hthv hth hfi hdd hdd0 hk4 hsh) ok_Mo_comes rfl hVm2.r.o (by decide) rfl lk_Mo_223 rfl rfl (Nat.zero_le _) (Nat.le_of_ble_eq_true rfl) (Nat.le_of_ble_eq_true rfl) (Nat.zero_le _) (Nat.zero_le _) dX12_takes_333 (sp_kI fun v333 m333 hp333 => ?_)
              obtain ⟨rfl, n333, b333, w333, vq333, vm333, vs333, vA333, hVm333, hMZ333, hr333⟩ := hp333
              have rkm333 : sp_rk B [4, 6, 7, 8, 9, 10, 11, 12, 16, 34, 36, 37] m m333 := rkm2.trans ((hr333).mono (by decide))
              refine sp_goto X (pc := 336) (tgt := 340) dX12_takes_336 (by decide) ?_
              refine sp_ireturn X (pc := 340) dX12_takes_340 rfl ⟨_, rfl, ?_⟩
              first
                | exact ⟨_, _, _, _, _, _, _, _, _, hVm333, hMZ333, rkm333, 0, f, lk, th, none, sh, dd, hj9, Or.inr ⟨rfl, rfl, Or.inl ⟨hb318, by rw [hZn]; rfl, rfl⟩⟩⟩
                | exact ⟨_, _, _, _, _, _, _, _, Z, hVm2, hMZ2, rk2, 0, f, lk, th, none, sh, dd, hj9, Or.inr ⟨rfl, rfl, Or.inr ⟨hb318, rfl, Or.inl ⟨rfl, rfl⟩⟩⟩⟩
          · have h200 : 200 < n + (lk + 1) := by
              have := sp_nlt (b := n + lk + 1) (a := 200) hb311 (by omega)
              omega
            refine sp_bipush X (pc := 314) (v := (-6)) dX12_takes_314 (by decide) ?_
            refine sp_ireturn X (pc := 316) dX12_takes_316 rfl ⟨_, rfl, ?_⟩
            exact ⟨_, _, _, _, _, _, _, _, Z, hVm2, hMZ2, rk2, _, f, lk, th, none, sh, dd, hJl _ (Or.inr ⟨⟨hl0, hl1⟩, Or.inl ⟨h200, rfl⟩⟩), Or.inl ⟨by decide, rfl, rfl, (if_neg (fun z => absurd z.1 (by decide))).symm⟩⟩
        · have hl1 : ¬ Z.z + E.S e1 ≤ l1 := pu_cgt hb293
          refine sp_bipush X (pc := 296) (v := (-21)) dX12_takes_296 (by decide) ?_
          refine sp_ireturn X (pc := 298) dX12_takes_298 rfl ⟨_, rfl, ?_⟩
          have hlm : pu_lm n (n - 4) lk (E.K e1) (E.S e1) Z.z l0 l1 (-21) := by
            first
              | exact Or.inl ⟨Or.inl hl0, rfl⟩
              | exact Or.inl ⟨Or.inr ⟨hb274, hl1⟩, rfl⟩
          exact ⟨_, _, _, _, _, _, _, _, Z, hVm2, hMZ2, rk2, _, f, lk, th, none, sh, dd, hJl _ hlm, Or.inl ⟨by decide, rfl, rfl, (if_neg (fun z => absurd z.1 (by decide))).symm⟩⟩
  have cut140 : ∀ (f lk w1 : Nat) (th : Option Nat) (thv : Int32) (m1 : sp_M), sp_rk B [4, 6, 7, 8, 9, 10, 11, 12, 16, 34, 36, 37] m m1 → sp_V B m0 m1 D R l0 l1 d n b p t e n w1 vq vm vl vs vA vE → sp_rk B [34] m m1 → f < n → lk < (PT (E.P e1)).length → pu_ins Z.T.o f → ((th = none ∧ thv = -1) ∨ ∃ j, th = some j ∧ thv = nI j) → (∀ j, th = some j → 4 ≤ j ∧ j < n) → (∀ v1 al sh dd, pu_jk R n Z.T (pu_tp R TT) (pu_tf R TT) (E.K e1) (E.X e1) (PT (E.X e1)) f lk th v1 al sh dd → ¬ v1 = 0 → pu_j0 R Z PT TT E l0 l1 e1 v1 f lk th al sh dd) → (∀ al sh dd, pu_jk R n Z.T (pu_tp R TT) (pu_tf R TT) (E.K e1) (E.X e1) (PT (E.X e1)) f lk th 0 al sh dd → ¬ al = none → pu_j0 R Z PT TT E l0 l1 e1 0 f lk th al sh dd) → (∀ v1 sh dd, pu_jk R n Z.T (pu_tp R TT) (pu_tf R TT) (E.K e1) (E.X e1) (PT (E.X e1)) f lk th 0 none sh dd → pu_lm n (n - 4) lk (E.K e1) (E.S e1) Z.z l0 l1 v1 → pu_j0 R Z PT TT E l0 l1 e1 v1 f lk th none sh dd) → ¬ E.K e1 = 4 → ¬ (E.K e1 = 0 ∧ ∃ j, th = some j ∧ Z.T.k j = 0) → ¬ (∃ j, th = some j ∧ (E.K e1 = 0 ∨ Z.T.k j = 0)) → w 0 0 m1 140 [(0, false, va_rf (some (B 0))), (1, false, .int (nI e1)), (2, false, .int rl), (5, false, .int (nI f)), (6, false, .int (nI lk)), (7, false, .int thv), (8, false, .int (E.K e1))] [] := by
    intro f lk w1 th thv m1 rkm1 hVm1 hr1 hfn hlq hfi hthv hth hJn hJa hJl hk4 hnf hnp
    have hMN1 := hMN.rk hr1 (by decide)
    have hMZ1 := hMZ.rk hr1 (by decide)
    have hE1 := hE.rk hr1 (by decide) (by decide) (by decide)
    have rk1 : sp_rk B [4, 6, 7, 8, 9, 10, 11, 12, 16, 34, 36, 37] m m1 := hr1.mono (by decide)
    refine sp_aload_n X (pc := 140) (r := some (B 0)) dX12_takes_140 rfl rfl ?_
    refine sp_iload X (pc := 141) (x := nI f) dX12_takes_141 rfl ?_
    refine sp_iload X (pc := 143) (x := nI lk) dX12_takes_143 rfl ?_
    refine sp_callV X (pc := 145) (mc := 0) (ms := 0) (b := (B 0)) (c := 13) (r := some (B 0)) (As := [.int (nI f), .int (nI lk)]) (rest := []) (c_Mo_isThere l G _ hVm1 (s9 := Z.T.s f) hfn (hMN1.1 f hfn).2.1) ok_Mo_isThere rfl hVm1.r.o (by decide) rfl lk_Mo_210 rfl rfl (Nat.zero_le _) (Nat.le_of_ble_eq_true rfl) (Nat.le_of_ble_eq_true rfl) (Nat.zero_le _) (Nat.zero_le _) dX12_takes_145 (sp_kI fun v145 m145 hp145 => ?_)
    obtain ⟨hp145, hp145m⟩ := hp145; replace hp145m := (hp145m).symm; subst hp145m
    have hsh9 : sp_bo v145 (lk = 0 ∧ ¬ Z.T.s f = 0) := hp145.iff ⟨fun z => ⟨sp_neq (b := 0) z.1 (by omega) (by decide), z.2⟩, fun z => ⟨by rw [z.1]; rfl, z.2⟩⟩
    refine sp_if_eq X (pc := 148) (tgt := 154) dX12_takes_148 (by decide) (fun hb148 => ?_) (fun hb148 => ?_)
    · have hns := hsh9.eq hb148
      refine sp_iconst X (pc := 154) (v := 0) dX12_takes_154 (by decide) ?_
      refine sp_istore X (pc := 155) (lv' := [(9, false, .int 0), (0, false, va_rf (some (B 0))), (1, false, .int (nI e1)), (2, false, .int rl), (5, false, .int (nI f)), (6, false, .int (nI lk)), (7, false, .int thv), (8, false, .int (E.K e1))]) dX12_takes_155  (by decide) rfl ?_
      refine sp_iconst X (pc := 157) (v := (-1)) dX12_takes_157 (by decide) ?_
      refine sp_istore X (pc := 158) (lv' := [(10, false, .int (-1)), (9, false, .int 0), (0, false, va_rf (some (B 0))), (1, false, .int (nI e1)), (2, false, .int rl), (5, false, .int (nI f)), (6, false, .int (nI lk)), (7, false, .int thv), (8, false, .int (E.K e1))]) dX12_takes_158  (by decide) rfl ?_
      refine sp_iload X (pc := 160) (x := (E.K e1)) dX12_takes_160 rfl ?_
      refine sp_iconst X (pc := 162) (v := 2) dX12_takes_162 (by decide) ?_
      refine sp_icmp_ne X (pc := 163) (tgt := 207) dX12_takes_163 (by decide) (fun hb163 => ?_) (fun hb163 => ?_)
      · refine sp_iload X (pc := 207) (x := (E.K e1)) dX12_takes_207 rfl ?_
        refine sp_iconst X (pc := 209) (v := 3) dX12_takes_209 (by decide) ?_
        refine sp_icmp_ne X (pc := 210) (tgt := 253) dX12_takes_210 (by decide) (fun hb210 => ?_) (fun hb210 => ?_)
        · refine sp_pick X [2, 3, 4, 5, 6, 7, 8, 1, 0] (lv' := [(0, false, va_rf (some (B 0))), (1, false, .int (nI e1)), (2, false, .int rl), (5, false, .int (nI f)), (6, false, .int (nI lk)), (7, false, .int thv), (8, false, .int (E.K e1)), (9, false, .int 0), (10, false, .int (-1))]) rfl ?_
          first
            | exact cut253 f lk _ th none _ 0 _ _ rkm1 hVm1 hfn hlq hfi hthv hth (fun v1 h => hJl v1 none 0 (Or.inr ⟨hk4, Or.inr ⟨hnf, Or.inr ⟨hnp, Or.inr ⟨hns, Or.inr (Or.inr ⟨hb163, hb210, rfl, rfl, rfl, rfl⟩)⟩⟩⟩⟩) h) hk4 (Or.inl rfl) (fun _ => rfl) (fun z => absurd z hb210) (hr1.mono (by decide))
            | exact cut253 f lk _ th none _ 0 _ _ rkm1 hVm177 hfn hlq hfi hthv hth (fun v1 h => hJl v1 none 0 (hjk2 0 0 (Or.inr (Or.inr ⟨hb181, rfl, rfl, rfl, rfl⟩))) h) hk4 (Or.inl rfl) (fun _ => rfl) (fun z => by rw [hb163] at z; exact absurd z (by decide)) hr3
            | exact cut253 f lk _ th none _ 1 _ _ rkm1 hVm177 hfn hlq hfi hthv hth (fun v1 h => hJl v1 none 1 (hjk2 0 1 (Or.inr (Or.inl ⟨hb181, hb201, rfl, rfl, rfl, rfl⟩))) h) hk4 (Or.inr rfl) (fun z => absurd hb163 z) (fun z => by rw [hb163] at z; exact absurd z (by decide)) hr3
            | exact cut253 f lk _ th (some (Z.T.h j2)) _ 0 _ _ rkm1 hVm220 hfn hlq hfi hthv hth (fun v1 h => hJl v1 (some (Z.T.h j2)) 0 (hjk3 0 _ _ _ (Or.inr ⟨j2, hoj, hkj, rfl, rfl, rfl, Or.inr ⟨hnth, rfl⟩⟩)) h) hk4 (Or.inl rfl) (fun _ => rfl) (fun _ => ⟨_, rfl, hhb, rfl⟩) (hr4.mono (by decide))
        · refine sp_aload_n X (pc := 213) (r := some (B 0)) dX12_takes_213 rfl rfl ?_
          refine sp_aload_n X (pc := 214) (r := some (B 0)) dX12_takes_214 rfl rfl ?_
          refine sp_getfield X (pc := 215) (c := 13) (i := 27) (t := 2) (a := (B 0)) (v := va_rf (some (B 27))) rfl hVm1.r.o (by decide) rfl (congrArg va_rf hVm1.f27) fl_Mo_69 dX12_takes_215 ?_
          refine sp_iload_n X (pc := 218) (x := nI e1) dX12_takes_218 rfl rfl ?_
          have hx9 := hx3 hb210
          refine sp_iaload X (pc := 219) (a := (B 27)) rfl (Or.inl hVm1.y27) (sp_in e1 hVm1.l27 (by omega) (by decide)) dX12_takes_219 ?_
          rw [show (m1.aI (B 27) (nI e1).toNatClampNeg) = (m1.aI (B 27) e1) from (congrArg _ (nI_clamp (n := e1) (by omega)))]
          rw [show (m1.aI (B 27) e1) = (nI (E.X e1)) from ((hE1 e1 he1).2.2.1.trans hx9.2)]
          refine sp_callV X (pc := 220) (mc := 0) (ms := 0) (b := (B 0)) (c := 13) (r := some (B 0)) (As := [.int (nI (E.X e1))]) (rest := []) (c_Mo_fileAt l G _ hVm1 hMN1 hW (hP.rk hr1 (by decide) (by decide) (by decide)) hPl hx9.1) ok_Mo_fileAt rfl hVm1.r.o (by decide) rfl lk_Mo_214 rfl rfl (Nat.zero_le _) (Nat.le_of_ble_eq_true rfl) (Nat.le_of_ble_eq_true rfl) (Nat.zero_le _) (Nat.zero_le _) dX12_takes_220 (sp_kI fun v220 m220 hp220 => ?_)
          obtain ⟨⟨w220, hVm220, hr220⟩, o9, ho9, hv220⟩ := hp220
          have hr4 := hr1.trans hr220
          have hMZ220 := hMZ.rk hr4 (by decide)
          have hMN220 := hMN.rk hr4 (by decide)
          have hjk3 : ∀ v1 al sh dd, ((¬ (∃ j, o9 = some j ∧ Z.T.k j = 1) ∧ v1 = -19) ∨ ∃ j, o9 = some j ∧ Z.T.k j = 1 ∧ v1 = 0 ∧ sh = some (Z.T.h j) ∧ dd = 0 ∧ ((th = some j ∧ al = some j) ∨ (¬ th = some j ∧ al = none))) → pu_jk R n Z.T (pu_tp R TT) (pu_tf R TT) (E.K e1) (E.X e1) (PT (E.X e1)) f lk th v1 al sh dd := fun v1 al sh dd h => (Or.inr ⟨hk4, Or.inr ⟨hnf, Or.inr ⟨hnp, Or.inr ⟨hns, Or.inr (Or.inl ⟨hb210, o9, ho9, h⟩)⟩⟩⟩⟩)
          have rkm220 : sp_rk B [4, 6, 7, 8, 9, 10, 11, 12, 16, 34, 36, 37] m m220 := rkm1.trans (((hr220.mono (by decide : ∀ k, k ∈ [34] → k ∈ [4, 6, 7, 8, 9, 10, 11, 12, 16, 34, 36, 37]))).mono (by decide))
          refine sp_istore X (pc := 223) (lv' := [(11, false, .int v220), (10, false, .int (-1)), (9, false, .int 0), (0, false, va_rf (some (B 0))), (1, false, .int (nI e1)), (2, false, .int rl), (5, false, .int (nI f)), (6, false, .int (nI lk)), (7, false, .int thv), (8, false, .int (E.K e1))]) dX12_takes_223  (by decide) rfl ?_
          refine sp_iload X (pc := 225) (x := v220) dX12_takes_225 rfl ?_
          refine sp_iconst X (pc := 227) (v := (-1)) dX12_takes_227 (by decide) ?_
          refine sp_icmp_ne X (pc := 228) (tgt := 234) dX12_takes_228 (by decide) (fun hb228 => ?_) (fun hb228 => ?_)
          · obtain ⟨j2, hoj, hkj, hj2, hvj⟩ : ∃ j, o9 = some j ∧ Z.T.k j = 1 ∧ j < n ∧ v220 = nI j := by
              rcases hv220 with ⟨-, z⟩ | z
              · exact absurd z hb228
              · exact z
            subst hvj
            have n9 := hMN220.2.2 j2 hj2 (by rw [hkj]; decide)
            have hhb : Z.T.h j2 < b := by
              rcases hW.2.2.2.1 j2 hj2 with z | ⟨-, z⟩ | ⟨z, -⟩
              · rw [hkj] at z; exact absurd z (by decide)
              · exact z
              · rw [hkj] at z; exact absurd z (by decide)
            refine sp_iload X (pc := 234) (x := (nI j2)) dX12_takes_234 rfl ?_
            refine sp_iload X (pc := 236) (x := thv) dX12_takes_236 rfl ?_
            refine sp_icmp_ne X (pc := 238) (tgt := 244) dX12_takes_238 (by decide) (fun hb238 => ?_) (fun hb238 => ?_)
            · have hnth : ¬ th = some j2 := fun z => by
                rcases hthv with ⟨y, -⟩ | ⟨j, y, y2⟩
                · rw [y] at z; cases z
                · rw [y] at z; cases z; exact hb238 y2.symm
              refine sp_aload_n X (pc := 244) (r := some (B 0)) dX12_takes_244 rfl rfl ?_
              refine sp_getfield X (pc := 245) (c := 13) (i := 9) (t := 2) (a := (B 0)) (v := va_rf (some (B 9))) rfl hVm220.r.o (by decide) rfl (congrArg va_rf hVm220.f9) fl_Mo_29 dX12_takes_245 ?_
              refine sp_iload X (pc := 248) (x := (nI j2)) dX12_takes_248 rfl ?_
              refine sp_iaload X (pc := 250) (a := (B 9)) rfl (Or.inl hVm220.y9) (sp_in j2 hVm220.l9 (by omega) (by decide)) dX12_takes_250 ?_
              rw [show (m220.aI (B 9) (nI j2).toNatClampNeg) = (m220.aI (B 9) j2) from (congrArg _ (nI_clamp (n := j2) (by omega)))]
              rw [show (m220.aI (B 9) j2) = (nI (Z.T.h j2)) from n9]
              refine sp_istore X (pc := 251) (lv' := [(10, false, .int (nI (Z.T.h j2))), (11, false, .int (nI j2)), (9, false, .int 0), (0, false, va_rf (some (B 0))), (1, false, .int (nI e1)), (2, false, .int rl), (5, false, .int (nI f)), (6, false, .int (nI lk)), (7, false, .int thv), (8, false, .int (E.K e1))]) dX12_takes_251  (by decide) rfl ?_
              refine sp_pick X [3, 4, 5, 6, 7, 8, 9, 2, 0] (lv' := [(0, false, va_rf (some (B 0))), (1, false, .int (nI e1)), (2, false, .int rl), (5, false, .int (nI f)), (6, false, .int (nI lk)), (7, false, .int thv), (8, false, .int (E.K e1)), (9, false, .int 0), (10, false, .int (nI (Z.T.h j2)))]) rfl ?_
              first
                | exact cut253 f lk _ th none _ 0 _ _ rkm220 hVm1 hfn hlq hfi hthv hth (fun v1 h => hJl v1 none 0 (Or.inr ⟨hk4, Or.inr ⟨hnf, Or.inr ⟨hnp, Or.inr ⟨hns, Or.inr (Or.inr ⟨hb163, hb210, rfl, rfl, rfl, rfl⟩)⟩⟩⟩⟩) h) hk4 (Or.inl rfl) (fun _ => rfl) (fun z => absurd z hb210) (hr1.mono (by decide))
                | exact cut253 f lk _ th none _ 0 _ _ rkm220 hVm177 hfn hlq hfi hthv hth (fun v1 h => hJl v1 none 0 (hjk2 0 0 (Or.inr (Or.inr ⟨hb181, rfl, rfl, rfl, rfl⟩))) h) hk4 (Or.inl rfl) (fun _ => rfl) (fun z => by rw [hb163] at z; exact absurd z (by decide)) hr3
                | exact cut253 f lk _ th none _ 1 _ _ rkm220 hVm177 hfn hlq hfi hthv hth (fun v1 h => hJl v1 none 1 (hjk2 0 1 (Or.inr (Or.inl ⟨hb181, hb201, rfl, rfl, rfl, rfl⟩))) h) hk4 (Or.inr rfl) (fun z => absurd hb163 z) (fun z => by rw [hb163] at z; exact absurd z (by decide)) hr3
                | exact cut253 f lk _ th (some (Z.T.h j2)) _ 0 _ _ rkm220 hVm220 hfn hlq hfi hthv hth (fun v1 h => hJl v1 (some (Z.T.h j2)) 0 (hjk3 0 _ _ _ (Or.inr ⟨j2, hoj, hkj, rfl, rfl, rfl, Or.inr ⟨hnth, rfl⟩⟩)) h) hk4 (Or.inl rfl) (fun _ => rfl) (fun _ => ⟨_, rfl, hhb, rfl⟩) (hr4.mono (by decide))
            · have hyth : th = some j2 := by
                rcases hthv with ⟨-, y⟩ | ⟨j, y, y2⟩
                · exact absurd (hb238.trans y) (sp_nn9 (by omega))
                · rw [y, pu_nI (hb238.trans y2) (by omega) (by have := (hth j y).2; omega)]
              refine sp_iload X (pc := 241) (x := thv) dX12_takes_241 rfl ?_
              refine sp_ireturn X (pc := 243) dX12_takes_243 rfl ⟨_, rfl, ?_⟩
              have hk0 : ¬ E.K e1 = 0 := by rw [hb210]; decide
              have hj9 := hJa (some j2) (some (Z.T.h j2)) 0 (hjk3 0 _ _ _ (Or.inr ⟨j2, hoj, hkj, rfl, rfl, rfl, Or.inl ⟨hyth, rfl⟩⟩)) (by simp)
              by_cases hrl : rl = 0
              · exact ⟨_, _, _, _, _, _, _, _, Z, hVm220, hMZ220, rkm220, 0, f, lk, th, some j2, _, 0, hj9, Or.inr ⟨rfl, rfl, Or.inr ⟨hrl, rfl, Or.inr ⟨j2, rfl, hb238.symm⟩⟩⟩⟩
              · exact ⟨_, _, _, _, _, _, _, _, Z, hVm220, hMZ220, rkm220, 0, f, lk, th, some j2, _, 0, hj9, Or.inr ⟨rfl, rfl, Or.inl ⟨hrl, hb238.symm, (pu_out.some3 hk0).symm⟩⟩⟩
          · have hno9 : ¬ (∃ j, o9 = some j ∧ Z.T.k j = 1) := by
              rcases hv220 with ⟨z, -⟩ | ⟨j, -, -, y, z⟩
              · exact z
              · exact absurd (z.symm.trans hb228) (sp_nn9 (by omega))
            refine sp_bipush X (pc := 231) (v := (-19)) dX12_takes_231 (by decide) ?_
            refine sp_ireturn X (pc := 233) dX12_takes_233 rfl ⟨_, rfl, ?_⟩
            exact ⟨_, _, _, _, _, _, _, _, Z, hVm220, hMZ220, rkm220, _, f, lk, th, none, none, 0, hJn (-19) none none 0 (hjk3 (-19) none none 0 (Or.inl ⟨hno9, rfl⟩)) (by decide), Or.inl ⟨by decide, rfl, rfl, (if_neg (fun z => absurd z.1 (by decide))).symm⟩⟩
      · refine sp_aload_n X (pc := 166) (r := some (B 0)) dX12_takes_166 rfl rfl ?_
        refine sp_aload_n X (pc := 167) (r := some (B 0)) dX12_takes_167 rfl rfl ?_
        refine sp_getfield X (pc := 168) (c := 13) (i := 27) (t := 2) (a := (B 0)) (v := va_rf (some (B 27))) rfl hVm1.r.o (by decide) rfl (congrArg va_rf hVm1.f27) fl_Mo_69 dX12_takes_168 ?_
        refine sp_iload_n X (pc := 171) (x := nI e1) dX12_takes_171 rfl rfl ?_
        have hx9 := hx2 hb163
        refine sp_iaload X (pc := 172) (a := (B 27)) rfl (Or.inl hVm1.y27) (sp_in e1 hVm1.l27 (by omega) (by decide)) dX12_takes_172 ?_
        rw [show (m1.aI (B 27) (nI e1).toNatClampNeg) = (m1.aI (B 27) e1) from (congrArg _ (nI_clamp (n := e1) (by omega)))]
        rw [show (m1.aI (B 27) e1) = (nI (E.X e1)) from ((hE1 e1 he1).2.2.1.trans hx9.2)]
        refine sp_iload X (pc := 173) (x := nI f) dX12_takes_173 rfl ?_
        refine sp_iload X (pc := 175) (x := nI lk) dX12_takes_175 rfl ?_
        refine sp_callV X (pc := 177) (mc := 0) (ms := 0) (b := (B 0)) (c := 13) (r := some (B 0)) (As := [.int (nI (E.X e1)), .int (nI f), .int (nI lk)]) (rest := []) (c_Mo_leads l G _ hVm1 (hMN.rk hr1 (by decide)) hW (hMT.rk hr1 (by decide) (by decide)) hTl hTU hx9.1 hfn (by omega)) ok_Mo_leads rfl hVm1.r.o (by decide) rfl lk_Mo_177 rfl rfl (Nat.zero_le _) (Nat.le_of_ble_eq_true rfl) (Nat.le_of_ble_eq_true rfl) (Nat.zero_le _) (Nat.zero_le _) dX12_takes_177 (sp_kI fun v177 m177 hp177 => ?_)
        obtain ⟨⟨w177, hVm177, hr177⟩, ff, hff, hlg⟩ := hp177
        have hr3 : sp_rk B [34, 36, 37] m m177 := (hr1.mono (by decide : ∀ k, k ∈ [34] → k ∈ [34, 36, 37])).trans hr177
        have hMZ177 := hMZ.rk hr3 (by decide)
        have hjk2 : ∀ v1 dd, ((v177 = -1 ∧ sp_hr R 4 = 0 ∧ v1 = -18) ∨ (v177 = -1 ∧ ¬ sp_hr R 4 = 0 ∧ v1 = 0 ∧ (none : Option Nat) = none ∧ (none : Option Nat) = none ∧ dd = 1) ∨ (¬ v177 = -1 ∧ v1 = 0 ∧ (none : Option Nat) = none ∧ (none : Option Nat) = none ∧ dd = 0)) → pu_jk R n Z.T (pu_tp R TT) (pu_tf R TT) (E.K e1) (E.X e1) (PT (E.X e1)) f lk th v1 none none dd := fun v1 dd h => (Or.inr ⟨hk4, Or.inr ⟨hnf, Or.inr ⟨hnp, Or.inr ⟨hns, Or.inl ⟨hb163, ff, v177, hff, hlg, h⟩⟩⟩⟩⟩)
        have rkm177 : sp_rk B [4, 6, 7, 8, 9, 10, 11, 12, 16, 34, 36, 37] m m177 := rkm1.trans (((hr177.mono (by decide : ∀ k, k ∈ [34, 36, 37] → k ∈ [4, 6, 7, 8, 9, 10, 11, 12, 16, 34, 36, 37]))).mono (by decide))
        refine sp_iconst X (pc := 180) (v := (-1)) dX12_takes_180 (by decide) ?_
        refine sp_icmp_ne X (pc := 181) (tgt := 188) dX12_takes_181 (by decide) (fun hb181 => ?_) (fun hb181 => ?_)
        · refine sp_iconst X (pc := 188) (v := 0) dX12_takes_188 (by decide) ?_
          refine sp_istore X (pc := 189) (lv' := [(9, false, .int 0), (10, false, .int (-1)), (0, false, va_rf (some (B 0))), (1, false, .int (nI e1)), (2, false, .int rl), (5, false, .int (nI f)), (6, false, .int (nI lk)), (7, false, .int thv), (8, false, .int (E.K e1))]) dX12_takes_189  (by decide) rfl ?_
          refine sp_iload X (pc := 191) (x := 0) dX12_takes_191 rfl ?_
          refine sp_if_eq X (pc := 193) (tgt := 253) dX12_takes_193 (by decide) (fun hb193 => ?_) (fun hb193 => ?_)
          · refine sp_pick X [2, 3, 4, 5, 6, 7, 8, 0, 1] (lv' := [(0, false, va_rf (some (B 0))), (1, false, .int (nI e1)), (2, false, .int rl), (5, false, .int (nI f)), (6, false, .int (nI lk)), (7, false, .int thv), (8, false, .int (E.K e1)), (9, false, .int 0), (10, false, .int (-1))]) rfl ?_
            first
              | exact cut253 f lk _ th none _ 0 _ _ rkm177 hVm1 hfn hlq hfi hthv hth (fun v1 h => hJl v1 none 0 (Or.inr ⟨hk4, Or.inr ⟨hnf, Or.inr ⟨hnp, Or.inr ⟨hns, Or.inr (Or.inr ⟨hb163, hb210, rfl, rfl, rfl, rfl⟩)⟩⟩⟩⟩) h) hk4 (Or.inl rfl) (fun _ => rfl) (fun z => absurd z hb210) (hr1.mono (by decide))
              | exact cut253 f lk _ th none _ 0 _ _ rkm177 hVm177 hfn hlq hfi hthv hth (fun v1 h => hJl v1 none 0 (hjk2 0 0 (Or.inr (Or.inr ⟨hb181, rfl, rfl, rfl, rfl⟩))) h) hk4 (Or.inl rfl) (fun _ => rfl) (fun z => by rw [hb163] at z; exact absurd z (by decide)) hr3
              | exact cut253 f lk _ th none _ 1 _ _ rkm177 hVm177 hfn hlq hfi hthv hth (fun v1 h => hJl v1 none 1 (hjk2 0 1 (Or.inr (Or.inl ⟨hb181, hb201, rfl, rfl, rfl, rfl⟩))) h) hk4 (Or.inr rfl) (fun z => absurd hb163 z) (fun z => by rw [hb163] at z; exact absurd z (by decide)) hr3
              | exact cut253 f lk _ th (some (Z.T.h j2)) _ 0 _ _ rkm177 hVm220 hfn hlq hfi hthv hth (fun v1 h => hJl v1 (some (Z.T.h j2)) 0 (hjk3 0 _ _ _ (Or.inr ⟨j2, hoj, hkj, rfl, rfl, rfl, Or.inr ⟨hnth, rfl⟩⟩)) h) hk4 (Or.inl rfl) (fun _ => rfl) (fun _ => ⟨_, rfl, hhb, rfl⟩) (hr4.mono (by decide))
          · first | exact absurd hb193 (by decide) | exact absurd (by decide) hb193
        · refine sp_iconst X (pc := 184) (v := 1) dX12_takes_184 (by decide) ?_
          refine sp_goto X (pc := 185) (tgt := 189) dX12_takes_185 (by decide) ?_
          refine sp_istore X (pc := 189) (lv' := [(9, false, .int 1), (10, false, .int (-1)), (0, false, va_rf (some (B 0))), (1, false, .int (nI e1)), (2, false, .int rl), (5, false, .int (nI f)), (6, false, .int (nI lk)), (7, false, .int thv), (8, false, .int (E.K e1))]) dX12_takes_189  (by decide) rfl ?_
          refine sp_iload X (pc := 191) (x := 1) dX12_takes_191 rfl ?_
          refine sp_if_eq X (pc := 193) (tgt := 253) dX12_takes_193 (by decide) (fun hb193 => ?_) (fun hb193 => ?_)
          · first | exact absurd hb193 (by decide) | exact absurd (by decide) hb193
          · refine sp_aload_n X (pc := 196) (r := some (B 0)) dX12_takes_196 rfl rfl ?_
            refine sp_iconst X (pc := 197) (v := 4) dX12_takes_197 (by decide) ?_
            refine sp_callV X (pc := 198) (mc := 0) (ms := 0) (b := (B 0)) (c := 13) (r := some (B 0)) (As := [.int 4]) (rest := []) (c_Mo_hasRule l G _ hVm177) ok_Mo_hasRule rfl hVm177.r.o (by decide) rfl lk_Mo_118 rfl rfl (Nat.zero_le _) (Nat.le_of_ble_eq_true rfl) (Nat.le_of_ble_eq_true rfl) (Nat.zero_le _) (Nat.zero_le _) dX12_takes_198 (sp_kI fun v198 m198 hp198 => ?_)
            obtain ⟨hp198v, hp198⟩ := hp198; replace hp198 := (hp198).symm; subst hp198; replace hp198v := (hp198v).symm; subst hp198v
            refine sp_if_ne X (pc := 201) (tgt := 253) dX12_takes_201 (by decide) (fun hb201 => ?_) (fun hb201 => ?_)
            · refine sp_pick X [2, 3, 4, 5, 6, 7, 8, 0, 1] (lv' := [(0, false, va_rf (some (B 0))), (1, false, .int (nI e1)), (2, false, .int rl), (5, false, .int (nI f)), (6, false, .int (nI lk)), (7, false, .int thv), (8, false, .int (E.K e1)), (9, false, .int 1), (10, false, .int (-1))]) rfl ?_
              first
                | exact cut253 f lk _ th none _ 0 _ _ rkm177 hVm1 hfn hlq hfi hthv hth (fun v1 h => hJl v1 none 0 (Or.inr ⟨hk4, Or.inr ⟨hnf, Or.inr ⟨hnp, Or.inr ⟨hns, Or.inr (Or.inr ⟨hb163, hb210, rfl, rfl, rfl, rfl⟩)⟩⟩⟩⟩) h) hk4 (Or.inl rfl) (fun _ => rfl) (fun z => absurd z hb210) (hr1.mono (by decide))
                | exact cut253 f lk _ th none _ 0 _ _ rkm177 hVm177 hfn hlq hfi hthv hth (fun v1 h => hJl v1 none 0 (hjk2 0 0 (Or.inr (Or.inr ⟨hb181, rfl, rfl, rfl, rfl⟩))) h) hk4 (Or.inl rfl) (fun _ => rfl) (fun z => by rw [hb163] at z; exact absurd z (by decide)) hr3
                | exact cut253 f lk _ th none _ 1 _ _ rkm177 hVm177 hfn hlq hfi hthv hth (fun v1 h => hJl v1 none 1 (hjk2 0 1 (Or.inr (Or.inl ⟨hb181, hb201, rfl, rfl, rfl, rfl⟩))) h) hk4 (Or.inr rfl) (fun z => absurd hb163 z) (fun z => by rw [hb163] at z; exact absurd z (by decide)) hr3
                | exact cut253 f lk _ th (some (Z.T.h j2)) _ 0 _ _ rkm177 hVm220 hfn hlq hfi hthv hth (fun v1 h => hJl v1 (some (Z.T.h j2)) 0 (hjk3 0 _ _ _ (Or.inr ⟨j2, hoj, hkj, rfl, rfl, rfl, Or.inr ⟨hnth, rfl⟩⟩)) h) hk4 (Or.inl rfl) (fun _ => rfl) (fun _ => ⟨_, rfl, hhb, rfl⟩) (hr4.mono (by decide))
            · refine sp_bipush X (pc := 204) (v := (-18)) dX12_takes_204 (by decide) ?_
              refine sp_ireturn X (pc := 206) dX12_takes_206 rfl ⟨_, rfl, ?_⟩
              exact ⟨_, _, _, _, _, _, _, _, Z, hVm177, hMZ177, rkm177, _, f, lk, th, none, none, 0, hJn (-18) none none 0 (hjk2 (-18) 0 (Or.inl ⟨hb181, hb201, rfl⟩)) (by decide), Or.inl ⟨by decide, rfl, rfl, (if_neg (fun z => absurd z.1 (by decide))).symm⟩⟩
    · refine sp_bipush X (pc := 151) (v := (-16)) dX12_takes_151 (by decide) ?_
      refine sp_ireturn X (pc := 153) dX12_takes_153 rfl ⟨_, rfl, ?_⟩
      exact ⟨_, _, _, _, _, _, _, _, Z, hVm1, hMZ1, rk1, _, f, lk, th, none, none, 0, hJn (-16) none none 0 (Or.inr ⟨hk4, Or.inr ⟨hnf, Or.inr ⟨hnp, Or.inl ⟨(hsh9.ne hb148).1, (hsh9.ne hb148).2, rfl⟩⟩⟩⟩) (by decide), Or.inl ⟨by decide, rfl, rfl, (if_neg (fun z => absurd z.1 (by decide))).symm⟩⟩
  refine sp_aload_n X (pc := 0) (r := some (B 0)) dX12_takes_0 rfl rfl ?_
  refine sp_getfield X (pc := 1) (c := 13) (i := 26) (t := 2) (a := (B 0)) (v := va_rf (some (B 26))) rfl hVm.r.o (by decide) rfl (congrArg va_rf hVm.f26) fl_Mo_66 dX12_takes_1 ?_
  refine sp_iload_n X (pc := 4) (x := nI e1) dX12_takes_4 rfl rfl ?_
  refine sp_iaload X (pc := 5) (a := (B 26)) rfl (Or.inl hVm.y26) (sp_in e1 hVm.l26 (by omega) (by decide)) dX12_takes_5 ?_
  rw [show (m.aI (B 26) (nI e1).toNatClampNeg) = (m.aI (B 26) e1) from (congrArg _ (nI_clamp (n := e1) (by omega)))]
  rw [show (m.aI (B 26) e1) = (nI (E.P e1)) from c2]
  refine sp_istore_n X (pc := 6) (lv' := [(3, false, .int (nI (E.P e1))), (0, false, va_rf (some (B 0))), (1, false, .int (nI e1)), (2, false, .int rl)]) dX12_takes_6 rfl (by decide) rfl ?_
  refine sp_aload_n X (pc := 7) (r := some (B 0)) dX12_takes_7 rfl rfl ?_
  refine sp_iload_n X (pc := 8) (x := (nI (E.P e1))) dX12_takes_8 rfl rfl ?_
  refine sp_aload_n X (pc := 9) (r := some (B 0)) dX12_takes_9 rfl rfl ?_
  refine sp_bipush X (pc := 10) (v := 32) dX12_takes_10 (by decide) ?_
  refine sp_callV X (pc := 12) (mc := 0) (ms := 0) (b := (B 0)) (c := 13) (r := some (B 0)) (As := [.int 32]) (rest := [.int (nI (E.P e1)), va_rf (some (B 0))]) (c_Mo_hasRule l G _ hVm) ok_Mo_hasRule rfl hVm.r.o (by decide) rfl lk_Mo_118 rfl rfl (by simp [sp_cat_rf, sp_cat_i, sp_cat_l]) (Nat.le_of_ble_eq_true rfl) (Nat.le_of_ble_eq_true rfl) (Nat.zero_le _) (Nat.zero_le _) dX12_takes_12 (sp_kI fun v12 m12 hp12 => ?_)
  obtain ⟨hp12v, hp12⟩ := hp12; replace hp12 := (hp12).symm; subst hp12; replace hp12v := (hp12v).symm; subst hp12v
  refine sp_callV X (pc := 15) (mc := 0) (ms := 0) (b := (B 0)) (c := 13) (r := some (B 0)) (As := [.int (nI (E.P e1)), .int (sp_hr R 32)]) (rest := []) (c_Mo_walk l G _ (x := sp_hr R 32) hVm hMN hW hP hPl hgp) ok_Mo_walk rfl hVm.r.o (by decide) rfl lk_Mo_199 rfl rfl (Nat.zero_le _) (Nat.le_of_ble_eq_true rfl) (Nat.le_of_ble_eq_true rfl) (Nat.zero_le _) (Nat.zero_le _) dX12_takes_15 (sp_kI fun v15 m15 hp15 => ?_)
  obtain ⟨⟨w15, hVm15, hr15⟩, r, hwk, hv15, hc15⟩ := hp15
  have hMN15 := hMN.rk hr15 (by decide)
  have hMZ15 := hMZ.rk hr15 (by decide)
  have rkm15 : sp_rk B [4, 6, 7, 8, 9, 10, 11, 12, 16, 34, 36, 37] m m15 := rkm.trans (((hr15.mono (by decide : ∀ k, k ∈ [34] → k ∈ [4, 6, 7, 8, 9, 10, 11, 12, 16, 34, 36, 37]))).mono (by decide))
  refine sp_istore X (pc := 18) (lv' := [(4, false, .int v15), (3, false, .int (nI (E.P e1))), (0, false, va_rf (some (B 0))), (1, false, .int (nI e1)), (2, false, .int rl)]) dX12_takes_18  (by decide) rfl ?_
  refine sp_iload X (pc := 20) (x := v15) dX12_takes_20 rfl ?_
  refine sp_if_eq X (pc := 22) (tgt := 28) dX12_takes_22 (by decide) (fun hb22 => ?_) (fun hb22 => ?_)
  · obtain ⟨f, lk, th, hre, f871, l872, t873⟩ := hc15 hb22
    subst hre
    obtain ⟨hlq, hfn, hfi, hth⟩ := pu_wk.fine hW hwk (by omega) (pu_ins.one _)
    rw [Nat.zero_add] at hlq
    obtain ⟨thv, hthv0⟩ : ∃ z, m15.fI 873 (B 0) = z := ⟨_, rfl⟩
    rw [hthv0] at t873
    have k15 : m15.aI (B 25) e1 = E.K e1 := (congrFun (hr15 25 (by decide) (by decide)) e1).trans c1
    have c315 : m15.aI (B 27) e1 = E.W e1 := (congrFun (hr15 27 (by decide) (by decide)) e1).trans c3
    have hJn : ∀ v1 al sh dd, pu_jk R n Z.T (pu_tp R TT) (pu_tf R TT) (E.K e1) (E.X e1) (PT (E.X e1)) f lk th v1 al sh dd → ¬ v1 = 0 → pu_j0 R Z PT TT E l0 l1 e1 v1 f lk th al sh dd := fun v1 al sh dd h hn => hJ0e _ _ _ _ _ _ _ ⟨_, hwk, Or.inr ⟨rfl, v1, h, Or.inl ⟨hn, rfl⟩⟩⟩
    have hJa : ∀ al sh dd, pu_jk R n Z.T (pu_tp R TT) (pu_tf R TT) (E.K e1) (E.X e1) (PT (E.X e1)) f lk th 0 al sh dd → ¬ al = none → pu_j0 R Z PT TT E l0 l1 e1 0 f lk th al sh dd := fun al sh dd h hn => hJ0e _ _ _ _ _ _ _ ⟨_, hwk, Or.inr ⟨rfl, 0, h, Or.inr ⟨rfl, Or.inl ⟨hn, rfl⟩⟩⟩⟩
    have hJl : ∀ v1 sh dd, pu_jk R n Z.T (pu_tp R TT) (pu_tf R TT) (E.K e1) (E.X e1) (PT (E.X e1)) f lk th 0 none sh dd → pu_lm n (n - 4) lk (E.K e1) (E.S e1) Z.z l0 l1 v1 → pu_j0 R Z PT TT E l0 l1 e1 v1 f lk th none sh dd := fun v1 sh dd h hl => hJ0e _ _ _ _ _ _ _ ⟨_, hwk, Or.inr ⟨rfl, 0, h, Or.inr ⟨rfl, Or.inr ⟨rfl, hl⟩⟩⟩⟩
    refine sp_aload_n X (pc := 28) (r := some (B 0)) dX12_takes_28 rfl rfl ?_
    refine sp_getfield X (pc := 29) (c := 13) (i := 39) (t := 0) (a := (B 0)) (v := .int (nI f)) rfl hVm15.r.o (by decide) rfl (congrArg Value.int f871) fl_Mo_196 dX12_takes_29 ?_
    refine sp_istore X (pc := 32) (lv' := [(5, false, .int (nI f)), (4, false, .int v15), (3, false, .int (nI (E.P e1))), (0, false, va_rf (some (B 0))), (1, false, .int (nI e1)), (2, false, .int rl)]) dX12_takes_32  (by decide) rfl ?_
    refine sp_aload_n X (pc := 34) (r := some (B 0)) dX12_takes_34 rfl rfl ?_
    refine sp_getfield X (pc := 35) (c := 13) (i := 40) (t := 0) (a := (B 0)) (v := .int (nI lk)) rfl hVm15.r.o (by decide) rfl (congrArg Value.int l872) fl_Mo_186 dX12_takes_35 ?_
    refine sp_istore X (pc := 38) (lv' := [(6, false, .int (nI lk)), (5, false, .int (nI f)), (4, false, .int v15), (3, false, .int (nI (E.P e1))), (0, false, va_rf (some (B 0))), (1, false, .int (nI e1)), (2, false, .int rl)]) dX12_takes_38  (by decide) rfl ?_
    refine sp_aload_n X (pc := 40) (r := some (B 0)) dX12_takes_40 rfl rfl ?_
    refine sp_getfield X (pc := 41) (c := 13) (i := 41) (t := 0) (a := (B 0)) (v := .int thv) rfl hVm15.r.o (by decide) rfl (congrArg Value.int hthv0) fl_Mo_193 dX12_takes_41 ?_
    refine sp_istore X (pc := 44) (lv' := [(7, false, .int thv), (6, false, .int (nI lk)), (5, false, .int (nI f)), (4, false, .int v15), (3, false, .int (nI (E.P e1))), (0, false, va_rf (some (B 0))), (1, false, .int (nI e1)), (2, false, .int rl)]) dX12_takes_44  (by decide) rfl ?_
    refine sp_aload_n X (pc := 46) (r := some (B 0)) dX12_takes_46 rfl rfl ?_
    refine sp_getfield X (pc := 47) (c := 13) (i := 25) (t := 2) (a := (B 0)) (v := va_rf (some (B 25))) rfl hVm15.r.o (by decide) rfl (congrArg va_rf hVm15.f25) fl_Mo_63 dX12_takes_47 ?_
    refine sp_iload_n X (pc := 50) (x := nI e1) dX12_takes_50 rfl rfl ?_
    refine sp_iaload X (pc := 51) (a := (B 25)) rfl (Or.inl hVm15.y25) (sp_in e1 hVm15.l25 (by omega) (by decide)) dX12_takes_51 ?_
    rw [show (m15.aI (B 25) (nI e1).toNatClampNeg) = (m15.aI (B 25) e1) from (congrArg _ (nI_clamp (n := e1) (by omega)))]
    rw [show (m15.aI (B 25) e1) = (E.K e1) from k15]
    refine sp_istore X (pc := 52) (lv' := [(8, false, .int (E.K e1)), (7, false, .int thv), (6, false, .int (nI lk)), (5, false, .int (nI f)), (4, false, .int v15), (3, false, .int (nI (E.P e1))), (0, false, va_rf (some (B 0))), (1, false, .int (nI e1)), (2, false, .int rl)]) dX12_takes_52  (by decide) rfl ?_
    refine sp_iload X (pc := 54) (x := (E.K e1)) dX12_takes_54 rfl ?_
    refine sp_iconst X (pc := 56) (v := 4) dX12_takes_56 (by decide) ?_
    refine sp_icmp_ne X (pc := 57) (tgt := 81) dX12_takes_57 (by decide) (fun hb57 => ?_) (fun hb57 => ?_)
    · refine sp_iload X (pc := 81) (x := (E.K e1)) dX12_takes_81 rfl ?_
      refine sp_if_ne X (pc := 83) (tgt := 121) dX12_takes_83 (by decide) (fun hb83 => ?_) (fun hb83 => ?_)
      · refine sp_iload X (pc := 121) (x := thv) dX12_takes_121 rfl ?_
        refine sp_iconst X (pc := 123) (v := (-1)) dX12_takes_123 (by decide) ?_
        refine sp_icmp_eq X (pc := 124) (tgt := 140) dX12_takes_124 (by decide) (fun hb124 => ?_) (fun hb124 => ?_)
        · have hth0 : th = none := by
            rcases t873 with ⟨z, -⟩ | ⟨j, y, z⟩
            · exact z
            · exact absurd (z.symm.trans hb124) (sp_nn9 (by have := (hth j y).2; omega))
          refine sp_pick X [6, 7, 8, 3, 2, 1, 0] (lv' := [(0, false, va_rf (some (B 0))), (1, false, .int (nI e1)), (2, false, .int rl), (5, false, .int (nI f)), (6, false, .int (nI lk)), (7, false, .int thv), (8, false, .int (E.K e1))]) rfl ?_
          first
            | exact cut140 f lk _ th _ _ rkm15 hVm15 hr15 hfn hlq hfi t873 hth hJn hJa hJl hb57 (fun z => by obtain ⟨-, i, z1, -⟩ := z; rw [hth0] at z1; cases z1) (fun ⟨i, z1, _⟩ => by rw [hth0] at z1; cases z1)
            | exact cut140 f lk _ th _ _ rkm15 hVm15 hr15 hfn hlq hfi t873 hth hJn hJa hJl hb57 (fun z => hb83 z.1) (fun ⟨i, z1, z2⟩ => by rw [hthj] at z1; cases z1; exact z2.elim hb83 hb134)
            | exact cut140 f lk _ th _ _ rkm15 hVm15 hr15 hfn hlq hfi (Or.inr ⟨j, hthj, rfl⟩) hth hJn hJa hJl hb57 (fun z => hb83 z.1) (fun ⟨i, z1, z2⟩ => by rw [hthj] at z1; cases z1; exact z2.elim hb83 hb134)
        · obtain ⟨j, hthj, hj⟩ : ∃ j, th = some j ∧ thv = nI j := by
            rcases t873 with ⟨-, z⟩ | z
            · exact absurd z hb124
            · exact z
          have hjn := (hth j hthj).2
          have n1 := (hMN15.1 j hjn).1
          subst hj
          refine sp_aload_n X (pc := 127) (r := some (B 0)) dX12_takes_127 rfl rfl ?_
          refine sp_getfield X (pc := 128) (c := 13) (i := 4) (t := 2) (a := (B 0)) (v := va_rf (some (B 4))) rfl hVm15.r.o (by decide) rfl (congrArg va_rf hVm15.f4) fl_Mo_13 dX12_takes_128 ?_
          refine sp_iload X (pc := 131) (x := (nI j)) dX12_takes_131 rfl ?_
          refine sp_iaload X (pc := 133) (a := (B 4)) rfl (Or.inl hVm15.y4) (sp_in j hVm15.l4 (by omega) (by decide)) dX12_takes_133 ?_
          rw [show (m15.aI (B 4) (nI j).toNatClampNeg) = (m15.aI (B 4) j) from (congrArg _ (nI_clamp (n := j) (by omega)))]
          rw [show (m15.aI (B 4) j) = (Z.T.k j) from n1]
          refine sp_if_ne X (pc := 134) (tgt := 140) dX12_takes_134 (by decide) (fun hb134 => ?_) (fun hb134 => ?_)
          · refine sp_pick X [6, 7, 8, 3, 2, 1, 0] (lv' := [(0, false, va_rf (some (B 0))), (1, false, .int (nI e1)), (2, false, .int rl), (5, false, .int (nI f)), (6, false, .int (nI lk)), (7, false, .int (nI j)), (8, false, .int (E.K e1))]) rfl ?_
            first
              | exact cut140 f lk _ th _ _ rkm15 hVm15 hr15 hfn hlq hfi t873 hth hJn hJa hJl hb57 (fun z => by obtain ⟨-, i, z1, -⟩ := z; rw [hth0] at z1; cases z1) (fun ⟨i, z1, _⟩ => by rw [hth0] at z1; cases z1)
              | exact cut140 f lk _ th _ _ rkm15 hVm15 hr15 hfn hlq hfi t873 hth hJn hJa hJl hb57 (fun z => hb83 z.1) (fun ⟨i, z1, z2⟩ => by rw [hthj] at z1; cases z1; exact z2.elim hb83 hb134)
              | exact cut140 f lk _ th _ _ rkm15 hVm15 hr15 hfn hlq hfi (Or.inr ⟨j, hthj, rfl⟩) hth hJn hJa hJl hb57 (fun z => hb83 z.1) (fun ⟨i, z1, z2⟩ => by rw [hthj] at z1; cases z1; exact z2.elim hb83 hb134)
          · refine sp_bipush X (pc := 137) (v := (-17)) dX12_takes_137 (by decide) ?_
            refine sp_ireturn X (pc := 139) dX12_takes_139 rfl ⟨_, rfl, ?_⟩
            exact ⟨_, _, _, _, _, _, _, _, Z, hVm15, hMZ15, rkm15, _, f, lk, th, none, none, 0, hJn (-17) none none 0 (Or.inr ⟨hb57, Or.inr ⟨fun z => by first | exact hb83 z.1 | (rw [hth0] at hthj; cases hthj), Or.inl ⟨⟨j, hthj, Or.inr hb134⟩, rfl⟩⟩⟩) (by decide), Or.inl ⟨by decide, rfl, rfl, (if_neg (fun z => absurd z.1 (by decide))).symm⟩⟩
      · refine sp_iload X (pc := 86) (x := thv) dX12_takes_86 rfl ?_
        refine sp_iconst X (pc := 88) (v := (-1)) dX12_takes_88 (by decide) ?_
        refine sp_icmp_eq X (pc := 89) (tgt := 121) dX12_takes_89 (by decide) (fun hb89 => ?_) (fun hb89 => ?_)
        · have hth0 : th = none := by
            rcases t873 with ⟨z, -⟩ | ⟨j, y, z⟩
            · exact z
            · exact absurd (z.symm.trans hb89) (sp_nn9 (by have := (hth j y).2; omega))
          refine sp_iload X (pc := 121) (x := thv) dX12_takes_121 rfl ?_
          refine sp_iconst X (pc := 123) (v := (-1)) dX12_takes_123 (by decide) ?_
          refine sp_icmp_eq X (pc := 124) (tgt := 140) dX12_takes_124 (by decide) (fun hb124 => ?_) (fun hb124 => ?_)
          · have hth0 : th = none := by
              rcases t873 with ⟨z, -⟩ | ⟨j, y, z⟩
              · exact z
              · exact absurd (z.symm.trans hb124) (sp_nn9 (by have := (hth j y).2; omega))
            refine sp_pick X [6, 7, 8, 3, 2, 1, 0] (lv' := [(0, false, va_rf (some (B 0))), (1, false, .int (nI e1)), (2, false, .int rl), (5, false, .int (nI f)), (6, false, .int (nI lk)), (7, false, .int thv), (8, false, .int (E.K e1))]) rfl ?_
            first
              | exact cut140 f lk _ th _ _ rkm15 hVm15 hr15 hfn hlq hfi t873 hth hJn hJa hJl hb57 (fun z => by obtain ⟨-, i, z1, -⟩ := z; rw [hth0] at z1; cases z1) (fun ⟨i, z1, _⟩ => by rw [hth0] at z1; cases z1)
              | exact cut140 f lk _ th _ _ rkm15 hVm15 hr15 hfn hlq hfi t873 hth hJn hJa hJl hb57 (fun z => hb83 z.1) (fun ⟨i, z1, z2⟩ => by rw [hthj] at z1; cases z1; exact z2.elim hb83 hb134)
              | exact cut140 f lk _ th _ _ rkm15 hVm15 hr15 hfn hlq hfi (Or.inr ⟨j, hthj, rfl⟩) hth hJn hJa hJl hb57 (fun z => hb83 z.1) (fun ⟨i, z1, z2⟩ => by rw [hthj] at z1; cases z1; exact z2.elim hb83 hb134)
          · obtain ⟨j, hthj, hj⟩ : ∃ j, th = some j ∧ thv = nI j := by
              rcases t873 with ⟨-, z⟩ | z
              · exact absurd z hb124
              · exact z
            have hjn := (hth j hthj).2
            have n1 := (hMN15.1 j hjn).1
            subst hj
            refine sp_aload_n X (pc := 127) (r := some (B 0)) dX12_takes_127 rfl rfl ?_
            refine sp_getfield X (pc := 128) (c := 13) (i := 4) (t := 2) (a := (B 0)) (v := va_rf (some (B 4))) rfl hVm15.r.o (by decide) rfl (congrArg va_rf hVm15.f4) fl_Mo_13 dX12_takes_128 ?_
            refine sp_iload X (pc := 131) (x := (nI j)) dX12_takes_131 rfl ?_
            refine sp_iaload X (pc := 133) (a := (B 4)) rfl (Or.inl hVm15.y4) (sp_in j hVm15.l4 (by omega) (by decide)) dX12_takes_133 ?_
            rw [show (m15.aI (B 4) (nI j).toNatClampNeg) = (m15.aI (B 4) j) from (congrArg _ (nI_clamp (n := j) (by omega)))]
            rw [show (m15.aI (B 4) j) = (Z.T.k j) from n1]
            refine sp_if_ne X (pc := 134) (tgt := 140) dX12_takes_134 (by decide) (fun hb134 => ?_) (fun hb134 => ?_)
            · refine sp_pick X [6, 7, 8, 3, 2, 1, 0] (lv' := [(0, false, va_rf (some (B 0))), (1, false, .int (nI e1)), (2, false, .int rl), (5, false, .int (nI f)), (6, false, .int (nI lk)), (7, false, .int (nI j)), (8, false, .int (E.K e1))]) rfl ?_
              first
                | exact cut140 f lk _ th _ _ rkm15 hVm15 hr15 hfn hlq hfi t873 hth hJn hJa hJl hb57 (fun z => by obtain ⟨-, i, z1, -⟩ := z; rw [hth0] at z1; cases z1) (fun ⟨i, z1, _⟩ => by rw [hth0] at z1; cases z1)
                | exact cut140 f lk _ th _ _ rkm15 hVm15 hr15 hfn hlq hfi t873 hth hJn hJa hJl hb57 (fun z => hb83 z.1) (fun ⟨i, z1, z2⟩ => by rw [hthj] at z1; cases z1; exact z2.elim hb83 hb134)
                | exact cut140 f lk _ th _ _ rkm15 hVm15 hr15 hfn hlq hfi (Or.inr ⟨j, hthj, rfl⟩) hth hJn hJa hJl hb57 (fun z => hb83 z.1) (fun ⟨i, z1, z2⟩ => by rw [hthj] at z1; cases z1; exact z2.elim hb83 hb134)
            · refine sp_bipush X (pc := 137) (v := (-17)) dX12_takes_137 (by decide) ?_
              refine sp_ireturn X (pc := 139) dX12_takes_139 rfl ⟨_, rfl, ?_⟩
              exact ⟨_, _, _, _, _, _, _, _, Z, hVm15, hMZ15, rkm15, _, f, lk, th, none, none, 0, hJn (-17) none none 0 (Or.inr ⟨hb57, Or.inr ⟨fun z => by first | exact hb83 z.1 | (rw [hth0] at hthj; cases hthj), Or.inl ⟨⟨j, hthj, Or.inr hb134⟩, rfl⟩⟩⟩) (by decide), Or.inl ⟨by decide, rfl, rfl, (if_neg (fun z => absurd z.1 (by decide))).symm⟩⟩
        · obtain ⟨j, hthj, hj⟩ : ∃ j, th = some j ∧ thv = nI j := by
            rcases t873 with ⟨-, z⟩ | z
            · exact absurd z hb89
            · exact z
          have hjn := (hth j hthj).2
          have n1 := (hMN15.1 j hjn).1
          subst hj
          refine sp_aload_n X (pc := 92) (r := some (B 0)) dX12_takes_92 rfl rfl ?_
          refine sp_getfield X (pc := 93) (c := 13) (i := 4) (t := 2) (a := (B 0)) (v := va_rf (some (B 4))) rfl hVm15.r.o (by decide) rfl (congrArg va_rf hVm15.f4) fl_Mo_13 dX12_takes_93 ?_
          refine sp_iload X (pc := 96) (x := (nI j)) dX12_takes_96 rfl ?_
          refine sp_iaload X (pc := 98) (a := (B 4)) rfl (Or.inl hVm15.y4) (sp_in j hVm15.l4 (by omega) (by decide)) dX12_takes_98 ?_
          rw [show (m15.aI (B 4) (nI j).toNatClampNeg) = (m15.aI (B 4) j) from (congrArg _ (nI_clamp (n := j) (by omega)))]
          rw [show (m15.aI (B 4) j) = (Z.T.k j) from n1]
          refine sp_if_eq X (pc := 99) (tgt := 105) dX12_takes_99 (by decide) (fun hb99 => ?_) (fun hb99 => ?_)
          · refine sp_aload_n X (pc := 105) (r := some (B 0)) dX12_takes_105 rfl rfl ?_
            refine sp_iload X (pc := 106) (x := (nI j)) dX12_takes_106 rfl ?_
            refine sp_aload_n X (pc := 108) (r := some (B 0)) dX12_takes_108 rfl rfl ?_
            refine sp_getfield X (pc := 109) (c := 13) (i := 27) (t := 2) (a := (B 0)) (v := va_rf (some (B 27))) rfl hVm15.r.o (by decide) rfl (congrArg va_rf hVm15.f27) fl_Mo_69 dX12_takes_109 ?_
            refine sp_iload_n X (pc := 112) (x := nI e1) dX12_takes_112 rfl rfl ?_
            refine sp_iaload X (pc := 113) (a := (B 27)) rfl (Or.inl hVm15.y27) (sp_in e1 hVm15.l27 (by omega) (by decide)) dX12_takes_113 ?_
            rw [show (m15.aI (B 27) (nI e1).toNatClampNeg) = (m15.aI (B 27) e1) from (congrArg _ (nI_clamp (n := e1) (by omega)))]
            rw [show (m15.aI (B 27) e1) = (E.W e1) from c315]
            refine sp_iload_n X (pc := 114) (x := rl) dX12_takes_114 rfl rfl ?_
            refine sp_callV X (pc := 115) (mc := 0) (ms := 0) (b := (B 0)) (c := 13) (r := some (B 0)) (As := [.int (nI j), .int (E.W e1), .int rl]) (rest := []) (c_Mo_note l G _ hVm15 (j := j) hjn) ok_Mo_note rfl hVm15.r.o (by decide) rfl lk_Mo_206 rfl rfl (Nat.zero_le _) (Nat.le_of_ble_eq_true rfl) (Nat.le_of_ble_eq_true rfl) (Nat.zero_le _) (Nat.zero_le _) dX12_takes_115 (sp_kV fun m115 hp115 => ?_)
            have hj9 := hJa (some j) none 0 (Or.inr ⟨hb57, Or.inl ⟨hb83, ⟨j, hthj, hb99⟩, rfl, hthj.symm, rfl, rfl⟩⟩) (by simp)
            obtain ⟨vq9, Z9, hVm115, rkn115, hZ9, hc115⟩ : ∃ vq9 Z9, sp_V B m0 m115 D R l0 l1 d n b p t e n w15 vq9 vm vl vs vA vE ∧ sp_rk B [12] m15 m115 ∧ sp_mZ m115 B n b vq9 vm vs vA Z9 ∧ ((¬ rl = 0 ∧ Z9 = pu_out Z (E.K e1) (E.W e1) (E.S e1) (PT (E.P e1)) (E.X e1) f lk th (some j) none 0) ∨ (rl = 0 ∧ Z9 = Z)) := by
              rcases hp115 with ⟨z, rfl⟩ | ⟨z, z1, z2, z3⟩
              · exact ⟨vq, Z, hVm15, sp_rk.refl _ _ _, hMZ15, Or.inr ⟨z, rfl⟩⟩
              · refine ⟨vq + 1, _, z1, sp_rk.of1 (k := 12) z2 hVm15.r (by decide), ?_, Or.inl ⟨z, rfl⟩⟩
                rw [hb83]
                exact hMZ15.note hVm15.r z2 z3 (hx0 hb83)
            have rkm115 : sp_rk B [4, 6, 7, 8, 9, 10, 11, 12, 16, 34, 36, 37] m m115 := rkm15.trans ((rkn115).mono (by decide))
            refine sp_iload X (pc := 118) (x := (nI j)) dX12_takes_118 rfl ?_
            refine sp_ireturn X (pc := 120) dX12_takes_120 rfl ⟨_, rfl, ?_⟩
            exact ⟨_, _, _, _, _, _, _, _, Z9, hVm115, hZ9, rkm115, 0, f, lk, th, some j, none, 0, hj9, Or.inr ⟨rfl, rfl, hc115.imp (fun z => ⟨z.1, rfl, z.2⟩) (fun z => ⟨z.1, z.2, Or.inr ⟨j, rfl, rfl⟩⟩)⟩⟩
          · refine sp_bipush X (pc := 102) (v := (-17)) dX12_takes_102 (by decide) ?_
            refine sp_ireturn X (pc := 104) dX12_takes_104 rfl ⟨_, rfl, ?_⟩
            exact ⟨_, _, _, _, _, _, _, _, Z, hVm15, hMZ15, rkm15, _, f, lk, th, none, none, 0, hJn (-17) none none 0 (Or.inr ⟨hb57, Or.inr ⟨fun z => by obtain ⟨-, i, z1, z2⟩ := z; rw [hthj] at z1; cases z1; exact hb99 z2, Or.inl ⟨⟨j, hthj, Or.inl hb83⟩, rfl⟩⟩⟩) (by decide), Or.inl ⟨by decide, rfl, rfl, (if_neg (fun z => absurd z.1 (by decide))).symm⟩⟩
    · refine sp_aload_n X (pc := 60) (r := some (B 0)) dX12_takes_60 rfl rfl ?_
      refine sp_dup X (pc := 61) dX12_takes_61 (sp_cat_rf _) ?_
      refine sp_getfield X (pc := 62) (c := 13) (i := 33) (t := 0) (a := (B 0)) (v := .int vl) rfl hVm15.r.o (by decide) rfl (congrArg Value.int hVm15.cl) fl_Mo_203 dX12_takes_62 ?_
      refine sp_iload_n X (pc := 65) (x := rl) dX12_takes_65 rfl rfl ?_
      refine sp_if_eq X (pc := 66) (tgt := 73) dX12_takes_66 (by decide) (fun hb66 => ?_) (fun hb66 => ?_)
      · refine sp_iconst X (pc := 73) (v := 0) dX12_takes_73 (by decide) ?_
        refine sp_iadd X (pc := 74) dX12_takes_74 ?_
        refine sp_putI X (pc := 75) (c := 13) (i := 33) (q := 865) (a := (B 0)) rfl hVm15.r.o (by decide) rfl rfl (Or.inl rfl) ⟨rfl, rfl⟩ fl_Mo_203 dX12_takes_75 ?_
        obtain ⟨m75, hm75⟩ : ∃ xm, xm = (m15.pI 865 (B 0) (vl + 0)) := ⟨_, rfl⟩
        rw [← hm75]
        have hVm75 : sp_V B m0 m75 D R l0 l1 d n b p t e n w15 vq vm (vl + 0) vs vA vE := by
          rw [hm75]
          exact hVm15.xl (vl + 0)
        have rkm75 : sp_rk B [4, 6, 7, 8, 9, 10, 11, 12, 16, 34, 36, 37] m m75 := by
          rw [hm75]
          exact rkm15
        have a75 : m75.aI = m15.aI := by
          rw [hm75]
          rfl
        clear hm75
        refine sp_bipush X (pc := 78) (v := (-20)) dX12_takes_78 (by decide) ?_
        refine sp_ireturn X (pc := 80) dX12_takes_80 rfl ⟨_, rfl, ?_⟩
        have hMZ75 : sp_mZ m75 B n b vq vm vs vA Z := hMZ15.rk (l := []) (fun k _ _ => by rw [a75]) (by decide)
        have hj9 := hJn (-20) none none 0 (Or.inl ⟨hb57, rfl⟩) (by decide)
        first
          | exact ⟨_, _, _, _, _, _, _, _, Z, hVm75, hMZ75, rkm75, _, f, lk, th, none, none, 0, hj9, Or.inl ⟨by decide, rfl, rfl, (if_pos ⟨rfl, hb66⟩).symm⟩⟩
          | exact ⟨_, _, _, _, _, _, _, _, Z, hVm75, hMZ75, rkm75, _, f, lk, th, none, none, 0, hj9, Or.inl ⟨by decide, rfl, rfl, by rw [if_neg (fun z => z.2 hb66)]; exact Int32.add_zero _⟩⟩
      · refine sp_iconst X (pc := 69) (v := 1) dX12_takes_69 (by decide) ?_
        refine sp_goto X (pc := 70) (tgt := 74) dX12_takes_70 (by decide) ?_
        refine sp_iadd X (pc := 74) dX12_takes_74 ?_
        refine sp_putI X (pc := 75) (c := 13) (i := 33) (q := 865) (a := (B 0)) rfl hVm15.r.o (by decide) rfl rfl (Or.inl rfl) ⟨rfl, rfl⟩ fl_Mo_203 dX12_takes_75 ?_
        obtain ⟨m75, hm75⟩ : ∃ xm, xm = (m15.pI 865 (B 0) (vl + 1)) := ⟨_, rfl⟩
        rw [← hm75]
        have hVm75 : sp_V B m0 m75 D R l0 l1 d n b p t e n w15 vq vm (vl + 1) vs vA vE := by
          rw [hm75]
          exact hVm15.xl (vl + 1)
        have rkm75 : sp_rk B [4, 6, 7, 8, 9, 10, 11, 12, 16, 34, 36, 37] m m75 := by
          rw [hm75]
          exact rkm15
        have a75 : m75.aI = m15.aI := by
          rw [hm75]
          rfl
        clear hm75
        refine sp_bipush X (pc := 78) (v := (-20)) dX12_takes_78 (by decide) ?_
        refine sp_ireturn X (pc := 80) dX12_takes_80 rfl ⟨_, rfl, ?_⟩
        have hMZ75 : sp_mZ m75 B n b vq vm vs vA Z := hMZ15.rk (l := []) (fun k _ _ => by rw [a75]) (by decide)
        have hj9 := hJn (-20) none none 0 (Or.inl ⟨hb57, rfl⟩) (by decide)
        first
          | exact ⟨_, _, _, _, _, _, _, _, Z, hVm75, hMZ75, rkm75, _, f, lk, th, none, none, 0, hj9, Or.inl ⟨by decide, rfl, rfl, (if_pos ⟨rfl, hb66⟩).symm⟩⟩
          | exact ⟨_, _, _, _, _, _, _, _, Z, hVm75, hMZ75, rkm75, _, f, lk, th, none, none, 0, hj9, Or.inl ⟨by decide, rfl, rfl, by rw [if_neg (fun z => z.2 hb66)]; exact Int32.add_zero _⟩⟩
  · refine sp_iload X (pc := 25) (x := v15) dX12_takes_25 rfl ?_
    refine sp_ireturn X (pc := 27) dX12_takes_27 rfl ⟨_, rfl, ?_⟩
    exact ⟨_, _, _, _, _, _, _, _, Z, hVm15, hMZ15, rkm15, v15, 0, 0, none, none, none, 0, hJ0e _ _ _ _ _ _ _ ⟨r, hwk, Or.inl ⟨by rw [← hv15]; exact hb22, hv15⟩⟩, Or.inl ⟨hb22, rfl, rfl, (if_neg (fun z => by have := (hwk.ref (by rw [← hv15]; exact hb22)).1; rw [← hv15] at this; exact this z.1)).symm⟩⟩
set_option maxRecDepth 20000 in
theorem c_Mo_take (l : Launch) (G : sp_G) (m : sp_M) {B : Nat → Nat} {m0 : sp_M} {D : Nat → Int32} {R : Int32} {l0 l1 : Int64} {d n b p t e ws : Nat} {vq vm vl : Int32} {vs : Int64} {vA vE : Nat → Int64} (hVm : sp_V B m0 m D R l0 l1 d n b p t e n ws vq vm vl vs vA vE)  {Z : pu_Z} (hMZ : sp_mZ m B n b vq vm vs vA Z) (hZW : pu_ZW t Z) {PT : Nat → List (List Int32)} (hP : sp_mP m B p PT) (hPl : pu_P p PT) {E : pu_E} (hE : sp_mE m B e vE E) (hEW : pu_EW p t e E) {TT : Nat → List Int32} (hMT : sp_mT m B t TT) (hTl : pu_Tt t TT) (hTU : pu_TU R t TT) {x : Int32} : sp_C l G M_Mo_take 0 0 [.ref (B 0), .int x] m (sp_oI fun v m' => ∃ n' b' w' vq' vm' vl' vs' vA' Z', sp_V B m0 m' D R l0 l1 d n' b' p t e n' w' vq' vm' vl' vs' vA' vE ∧ sp_mZ m' B n' b' vq' vm' vs' vA' Z' ∧ sp_rk B [4, 6, 7, 8, 9, 10, 11, 12, 16, 34, 36, 37] m m' ∧ pu_tk v R Z Z' vl vl' PT TT e E l0 l1 x) := by
  refine sp_enter (lv0 := [(0, false, va_rf (some (B 0))), (1, false, .int x)]) "SafePathsModel" false rfl (by decide) (fun h => by cases h) (Nat.le_of_ble_eq_true rfl) rfl ?_
  intro w X
  have bd := hVm.hd
  have bn := hVm.hn
  have bb := hVm.hb
  have bp := hVm.hp
  have bt := hVm.ht
  have be := hVm.he
  have bw := hVm.hw
  have bL := hVm.hL
  refine sp_aload_n X (pc := 0) (r := some (B 0)) dX12_take_0 rfl rfl ?_
  refine sp_iload_n X (pc := 1) (x := x) dX12_take_1 rfl rfl ?_
  refine sp_callV X (pc := 2) (mc := 0) (ms := 0) (b := (B 0)) (c := 13) (r := some (B 0)) (As := [.int x]) (rest := []) (c_Mo_isEntry l G _ hVm) ok_Mo_isEntry rfl hVm.r.o (by decide) rfl lk_Mo_230 rfl rfl (Nat.zero_le _) (Nat.le_of_ble_eq_true rfl) (Nat.le_of_ble_eq_true rfl) (Nat.zero_le _) (Nat.zero_le _) dX12_take_2 (sp_kI fun v2 m2 hp2 => ?_)
  obtain ⟨hp2, hp2m⟩ := hp2; replace hp2m := (hp2m).symm; subst hp2m
  refine sp_if_eq X (pc := 5) (tgt := 17) dX12_take_5 (by decide) (fun hb5 => ?_) (fun hb5 => ?_)
  · have hno : ¬ ∃ j, j < e ∧ x = nI j := fun ⟨j, q1, q2⟩ => hp2.eq hb5 ⟨j, q2, q1⟩
    refine sp_bipush X (pc := 17) (v := (-7)) dX12_take_17 (by decide) ?_
    refine sp_ireturn X (pc := 19) dX12_take_19 rfl ⟨_, rfl, ?_⟩
    first
      | exact ⟨_, _, _, _, _, _, _, _, Z, hVm, hMZ, sp_rk.refl _ _ _, Or.inl ⟨hno, rfl, rfl, rfl⟩⟩
      | (refine ⟨_, _, _, _, _, _, _, _, _, hVm11, hMZ11, hr11, Or.inr ⟨j, hj, rfl, v1, f, lk, th, al, sh, dd, hj0, ?_⟩⟩
         rcases hcs with ⟨z1, z2, z3, z4⟩ | ⟨z1, z2, ⟨-, z3, z4⟩ | ⟨z3, -⟩⟩
         · refine Or.inl ⟨z1, z2, z3, ?_⟩
           rw [z4]
           by_cases q : v1 = -20
           · rw [if_pos ⟨q, by decide⟩, if_pos q]
           · rw [if_neg (fun z => q z.1), if_neg q]
         · exact Or.inr ⟨z1, z3, z4, z2⟩
         · exact absurd z3 (by decide))
  · obtain ⟨j, rfl, hj⟩ := hp2.ne hb5
    refine sp_aload_n X (pc := 8) (r := some (B 0)) dX12_take_8 rfl rfl ?_
    refine sp_iload_n X (pc := 9) (x := (nI j)) dX12_take_9 rfl rfl ?_
    refine sp_iconst X (pc := 10) (v := 1) dX12_take_10 (by decide) ?_
    refine sp_callV X (pc := 11) (mc := 0) (ms := 0) (b := (B 0)) (c := 13) (r := some (B 0)) (As := [.int (nI j), .int 1]) (rest := []) (c_Mo_takes l G _ (rl := 1) hVm hMZ hZW hP hPl hE hEW hMT hTl hTU hj) ok_Mo_takes rfl hVm.r.o (by decide) rfl lk_Mo_233 rfl rfl (Nat.zero_le _) (Nat.le_of_ble_eq_true rfl) (Nat.le_of_ble_eq_true rfl) (Nat.zero_le _) (Nat.zero_le _) dX12_take_11 (sp_kI fun v11 m11 hp11 => ?_)
    obtain ⟨n', b', w', vq', vm', vl', vs', vA', Z', hVm11, hMZ11, hr11, v1, f, lk, th, al, sh, dd, hj0, hcs⟩ := hp11
    refine sp_goto X (pc := 14) (tgt := 19) dX12_take_14 (by decide) ?_
    refine sp_ireturn X (pc := 19) dX12_take_19 rfl ⟨_, rfl, ?_⟩
    first
      | exact ⟨_, _, _, _, _, _, _, _, Z, hVm, hMZ, sp_rk.refl _ _ _, Or.inl ⟨hno, rfl, rfl, rfl⟩⟩
      | (refine ⟨_, _, _, _, _, _, _, _, _, hVm11, hMZ11, hr11, Or.inr ⟨j, hj, rfl, v1, f, lk, th, al, sh, dd, hj0, ?_⟩⟩
         rcases hcs with ⟨z1, z2, z3, z4⟩ | ⟨z1, z2, ⟨-, z3, z4⟩ | ⟨z3, -⟩⟩
         · refine Or.inl ⟨z1, z2, z3, ?_⟩
           rw [z4]
           by_cases q : v1 = -20
           · rw [if_pos ⟨q, by decide⟩, if_pos q]
           · rw [if_neg (fun z => q z.1), if_neg q]
         · exact Or.inr ⟨z1, z3, z4, z2⟩
         · exact absurd z3 (by decide))
set_option maxRecDepth 20000 in
theorem c_Mo_dry (l : Launch) (G : sp_G) (m : sp_M) {B : Nat → Nat} {m0 : sp_M} {D : Nat → Int32} {R : Int32} {l0 l1 : Int64} {d n b p t e ws : Nat} {vq vm vl : Int32} {vs : Int64} {vA vE : Nat → Int64} (hVm : sp_V B m0 m D R l0 l1 d n b p t e n ws vq vm vl vs vA vE)  {Z : pu_Z} (hMZ : sp_mZ m B n b vq vm vs vA Z) (hZW : pu_ZW t Z) {PT : Nat → List (List Int32)} (hP : sp_mP m B p PT) (hPl : pu_P p PT) {E : pu_E} (hE : sp_mE m B e vE E) (hEW : pu_EW p t e E) {TT : Nat → List Int32} (hMT : sp_mT m B t TT) (hTl : pu_Tt t TT) (hTU : pu_TU R t TT) {x : Int32} : sp_C l G M_Mo_dry 0 0 [.ref (B 0), .int x] m (sp_oI fun v m' => ∃ n' b' w' vq' vm' vl' vs' vA' Z', sp_V B m0 m' D R l0 l1 d n' b' p t e n' w' vq' vm' vl' vs' vA' vE ∧ sp_mZ m' B n' b' vq' vm' vs' vA' Z' ∧ sp_rk B [4, 6, 7, 8, 9, 10, 11, 12, 16, 34, 36, 37] m m' ∧ Z' = Z ∧ vl' = vl ∧ pu_dry v R Z PT TT e E l0 l1 x) := by
  refine sp_enter (lv0 := [(0, false, va_rf (some (B 0))), (1, false, .int x)]) "SafePathsModel" false rfl (by decide) (fun h => by cases h) (Nat.le_of_ble_eq_true rfl) rfl ?_
  intro w X
  have bd := hVm.hd
  have bn := hVm.hn
  have bb := hVm.hb
  have bp := hVm.hp
  have bt := hVm.ht
  have be := hVm.he
  have bw := hVm.hw
  have bL := hVm.hL
  refine sp_aload_n X (pc := 0) (r := some (B 0)) dX12_dry_0 rfl rfl ?_
  refine sp_iload_n X (pc := 1) (x := x) dX12_dry_1 rfl rfl ?_
  refine sp_callV X (pc := 2) (mc := 0) (ms := 0) (b := (B 0)) (c := 13) (r := some (B 0)) (As := [.int x]) (rest := []) (c_Mo_isEntry l G _ hVm) ok_Mo_isEntry rfl hVm.r.o (by decide) rfl lk_Mo_230 rfl rfl (Nat.zero_le _) (Nat.le_of_ble_eq_true rfl) (Nat.le_of_ble_eq_true rfl) (Nat.zero_le _) (Nat.zero_le _) dX12_dry_2 (sp_kI fun v2 m2 hp2 => ?_)
  obtain ⟨hp2, hp2m⟩ := hp2; replace hp2m := (hp2m).symm; subst hp2m
  refine sp_if_ne X (pc := 5) (tgt := 11) dX12_dry_5 (by decide) (fun hb5 => ?_) (fun hb5 => ?_)
  · obtain ⟨j, rfl, hj⟩ := hp2.ne hb5
    refine sp_aload_n X (pc := 11) (r := some (B 0)) dX12_dry_11 rfl rfl ?_
    refine sp_iload_n X (pc := 12) (x := (nI j)) dX12_dry_12 rfl rfl ?_
    refine sp_iconst X (pc := 13) (v := 0) dX12_dry_13 (by decide) ?_
    refine sp_callV X (pc := 14) (mc := 0) (ms := 0) (b := (B 0)) (c := 13) (r := some (B 0)) (As := [.int (nI j), .int 0]) (rest := []) (c_Mo_takes l G _ (rl := 0) hVm hMZ hZW hP hPl hE hEW hMT hTl hTU hj) ok_Mo_takes rfl hVm.r.o (by decide) rfl lk_Mo_233 rfl rfl (Nat.zero_le _) (Nat.le_of_ble_eq_true rfl) (Nat.le_of_ble_eq_true rfl) (Nat.zero_le _) (Nat.zero_le _) dX12_dry_14 (sp_kI fun v14 m14 hp14 => ?_)
    obtain ⟨n', b', w', vq', vm', vl', vs', vA', Z', hVm14, hMZ14, hr14, v1, f, lk, th, al, sh, dd, hj0, hcs⟩ := hp14
    have hZZ : Z' = Z ∧ vl' = vl := by
      rcases hcs with ⟨z1, z2, z3, z4⟩ | ⟨z1, z2, ⟨z3, -⟩ | ⟨z3, z4, -⟩⟩
      · exact ⟨z3, z4.trans (if_neg (fun z => z.2 rfl))⟩
      · exact absurd rfl z3
      · exact ⟨z4, z2⟩
    refine sp_istore_n X (pc := 17) (lv' := [(2, false, .int v14), (0, false, va_rf (some (B 0))), (1, false, .int (nI j))]) dX12_dry_17 rfl (by decide) rfl ?_
    refine sp_iload_n X (pc := 18) (x := v14) dX12_dry_18 rfl rfl ?_
    refine sp_if_le X (pc := 19) (tgt := 26) dX12_dry_19 (by decide) (fun hb19 => ?_) (fun hb19 => ?_)
    · refine sp_iload_n X (pc := 26) (x := v14) dX12_dry_26 rfl rfl ?_
      refine sp_ireturn X (pc := 27) dX12_dry_27 rfl ⟨_, rfl, ?_⟩
      have hfin : ∀ j, v1 = 0 → al = some j → 4 ≤ j ∧ j < Z.n := fun j z1 z2 => by
        rw [z1] at hj0
        exact (pu_jd.fine hZW.1 hj0).2.2.2.1 j z2
      have hneg : ¬ v1 = 0 → v1 ≤ 0 := hj0.neg
      refine ⟨_, _, _, _, _, _, _, _, _, hVm14, hMZ14, hr14, hZZ.1, hZZ.2, Or.inr ⟨j, hj, rfl, f, lk, th, al, sh, dd, ?_⟩⟩
      have hnn := hZW.1.1.2
      rcases hcs with ⟨z1, z2, -⟩ | ⟨z1, -, ⟨z3, -⟩ | ⟨-, -, ⟨-, z4⟩ | ⟨i, z4, z5⟩⟩⟩
      · first
          | (rw [z2]; exact hj0)
          | exact absurd (by rw [z2]; exact hneg z1) hb19
      · exact absurd rfl z3
      · rw [z1] at hj0
        first
          | exact hj0
          | (rw [z4]; exact hj0)
      · have hf := hfin i z1 z4
        rw [z1] at hj0
        first
          | exact hj0
          | (exfalso
             rw [z5] at hb19
             have := (nI_leI (b := 0) (by omega) (by decide)).mp hb19
             omega)
    · refine sp_iconst X (pc := 22) (v := 0) dX12_dry_22 (by decide) ?_
      refine sp_goto X (pc := 23) (tgt := 27) dX12_dry_23 (by decide) ?_
      refine sp_ireturn X (pc := 27) dX12_dry_27 rfl ⟨_, rfl, ?_⟩
      have hfin : ∀ j, v1 = 0 → al = some j → 4 ≤ j ∧ j < Z.n := fun j z1 z2 => by
        rw [z1] at hj0
        exact (pu_jd.fine hZW.1 hj0).2.2.2.1 j z2
      have hneg : ¬ v1 = 0 → v1 ≤ 0 := hj0.neg
      refine ⟨_, _, _, _, _, _, _, _, _, hVm14, hMZ14, hr14, hZZ.1, hZZ.2, Or.inr ⟨j, hj, rfl, f, lk, th, al, sh, dd, ?_⟩⟩
      have hnn := hZW.1.1.2
      rcases hcs with ⟨z1, z2, -⟩ | ⟨z1, -, ⟨z3, -⟩ | ⟨-, -, ⟨-, z4⟩ | ⟨i, z4, z5⟩⟩⟩
      · first
          | (rw [z2]; exact hj0)
          | exact absurd (by rw [z2]; exact hneg z1) hb19
      · exact absurd rfl z3
      · rw [z1] at hj0
        first
          | exact hj0
          | (rw [z4]; exact hj0)
      · have hf := hfin i z1 z4
        rw [z1] at hj0
        first
          | exact hj0
          | (exfalso
             rw [z5] at hb19
             have := (nI_leI (b := 0) (by omega) (by decide)).mp hb19
             omega)
  · have hno : ¬ ∃ j, j < e ∧ x = nI j := fun ⟨j, q1, q2⟩ => hp2.eq hb5 ⟨j, q2, q1⟩
    refine sp_bipush X (pc := 8) (v := (-7)) dX12_dry_8 (by decide) ?_
    refine sp_ireturn X (pc := 10) dX12_dry_10 rfl ⟨_, rfl, ?_⟩
    exact ⟨_, _, _, _, _, _, _, _, Z, hVm, hMZ, sp_rk.refl _ _ _, rfl, rfl, Or.inl ⟨hno, rfl⟩⟩
