
theorem sp_or0 {x y : Int32} (h : x ||| y = 0) : x = 0 ∧ y = 0 := by
  have h1 : (x ||| y).toBitVec = 0#32 := by rw [h]; rfl
  rw [Int32.toBitVec_or] at h1
  have h2 := BitVec.or_eq_zero_iff.mp h1
  exact ⟨Int32.toBitVec_inj.mp h2.1, Int32.toBitVec_inj.mp h2.2⟩
theorem sp_ltr_sm (x : Int32) : (97 ≤ sp_sm x ∧ sp_sm x ≤ 122) ↔ pu_ltr x := by
  unfold sp_sm pu_ltr
  by_cases h : 65 ≤ x ∧ x ≤ 90
  · rw [if_pos h]
    refine ⟨fun _ => Or.inl h, fun _ => ?_⟩
    obtain ⟨n, hn, rfl⟩ := nI_of (Int32.not_lt.mpr (Int32.le_trans (by decide : (0 : Int32) ≤ 65) h.1))
    have h1 : 65 ≤ n := (nI_leI (a := 65) (by decide) hn).mp h.1
    have h2 : n ≤ 90 := (nI_leI (b := 90) hn (by decide)).mp h.2
    have e : nI n + 32 = nI (n + 32) := nI_add n 32
    rw [e]
    exact ⟨nI_le (a := 97) (by omega) (by omega), nI_le (b := 122) (by omega) (by omega)⟩
  · rw [if_neg h]
    exact ⟨fun z => Or.inr z, fun z => z.elim (fun q => absurd q h) id⟩
set_option maxRecDepth 20000 in
theorem c_Mo_put (l : Launch) (G : sp_G) (m : sp_M) {B : Nat → Nat} {m0 : sp_M} {D : Nat → Int32} {R : Int32} {l0 l1 : Int64} {d n b p t e L ws : Nat} {vq vm vl : Int32} {vs : Int64} {vA vE : Nat → Int64} (hVm : sp_V B m0 m D R l0 l1 d n b p t e L ws vq vm vl vs vA vE) {x : Int32} : sp_C l G M_Mo_put 0 0 [.ref (B 0), .int x] m (sp_oI fun v m' => ((d = 160 ∨ x < 0 ∨ 255 < x) ∧ v = -5 ∧ m' = m) ∨ (¬ (d = 160 ∨ x < 0 ∨ 255 < x) ∧ v = nI (d + 1) ∧ sp_V B m0 m' (fun i => if i = d then x else D i) R l0 l1 (d + 1) n b p t e L ws vq vm vl vs vA vE ∧ sp_rk B [1] m m')) := by
  refine sp_enter (lv0 := [(0, false, va_rf (some (B 0))), (1, false, .int x)]) "SafePathsModel" false rfl (by decide) (fun h => by cases h) (Nat.le_of_ble_eq_true rfl) rfl ?_
  intro w X
  have bd := hVm.hd
  have bn := hVm.hn
  have bb := hVm.hb
  have bp := hVm.hp
  have bt := hVm.ht
  have be := hVm.he
  have bw := hVm.hw
  have bL := hVm.hL
  refine sp_aload_n X (pc := 0) (r := some (B 0)) dX12_put_0 rfl rfl ?_
  refine sp_getfield X (pc := 1) (c := 13) (i := 2) (t := 0) (a := (B 0)) (v := .int (nI d)) rfl hVm.r.o (by decide) rfl (congrArg Value.int hVm.cd) fl_Mo_122 dX12_put_1 ?_
  refine sp_sipush X (pc := 4) (v := 160) dX12_put_4 (by decide) ?_
  refine sp_icmp_eq X (pc := 7) (tgt := 21) dX12_put_7 (by decide) (fun hb7 => ?_) (fun hb7 => ?_)
  · have hd2 : d = 160 := sp_neq (b := 160) hb7 (by omega) (by omega)
    refine sp_bipush X (pc := 21) (v := (-5)) dX12_put_21 (by decide) ?_
    refine sp_ireturn X (pc := 23) dX12_put_23 rfl ⟨_, rfl, ?_⟩
    refine Or.inl ⟨?_, rfl, rfl⟩
    first | exact Or.inl hd2 | exact Or.inr (Or.inl hb11) | exact Or.inr (Or.inr (Int32.not_le.mp hb18))
  · have hd1 : d ≠ 160 := fun z => hb7 (by rw [z]; rfl)
    refine sp_iload_n X (pc := 10) (x := x) dX12_put_10 rfl rfl ?_
    refine sp_if_lt X (pc := 11) (tgt := 21) dX12_put_11 (by decide) (fun hb11 => ?_) (fun hb11 => ?_)
    · refine sp_bipush X (pc := 21) (v := (-5)) dX12_put_21 (by decide) ?_
      refine sp_ireturn X (pc := 23) dX12_put_23 rfl ⟨_, rfl, ?_⟩
      refine Or.inl ⟨?_, rfl, rfl⟩
      first | exact Or.inl hd2 | exact Or.inr (Or.inl hb11) | exact Or.inr (Or.inr (Int32.not_le.mp hb18))
    · refine sp_iload_n X (pc := 14) (x := x) dX12_put_14 rfl rfl ?_
      refine sp_sipush X (pc := 15) (v := 255) dX12_put_15 (by decide) ?_
      refine sp_icmp_le X (pc := 18) (tgt := 24) dX12_put_18 (by decide) (fun hb18 => ?_) (fun hb18 => ?_)
      · refine sp_aload_n X (pc := 24) (r := some (B 0)) dX12_put_24 rfl rfl ?_
        refine sp_getfield X (pc := 25) (c := 13) (i := 1) (t := 2) (a := (B 0)) (v := va_rf (some (B 1))) rfl hVm.r.o (by decide) rfl (congrArg va_rf hVm.f1) fl_Mo_7 dX12_put_25 ?_
        refine sp_aload_n X (pc := 28) (r := some (B 0)) dX12_put_28 rfl rfl ?_
        refine sp_getfield X (pc := 29) (c := 13) (i := 2) (t := 0) (a := (B 0)) (v := .int (nI d)) rfl hVm.r.o (by decide) rfl (congrArg Value.int hVm.cd) fl_Mo_122 dX12_put_29 ?_
        refine sp_iload_n X (pc := 32) (x := x) dX12_put_32 rfl rfl ?_
        refine sp_iastore X (pc := 33) (a := (B 1)) rfl hVm.y1 (sp_in d hVm.l1 (by omega) (by decide))  dX12_put_33 ?_
        rw [show (nI d).toNatClampNeg = d from (nI_clamp (n := d) (by omega))]
        obtain ⟨m33, hm33⟩ : ∃ xm, xm = (m.sI (B 1) d x) := ⟨_, rfl⟩
        rw [← hm33]
        have hVm33 : sp_V B m0 m33 (fun i => if i = d then x else D i) R l0 l1 d n b p t e L ws vq vm vl vs vA vE := by
          rw [hm33]
          exact hVm.s1 d x
        have rk33 : sp_rk B [1] m m33 := by
          rw [hm33]
          exact (sp_rk.refl _ _ _).sI hVm.r 1 _ _ (by decide) (by decide)
        clear hm33
        refine sp_aload_n X (pc := 34) (r := some (B 0)) dX12_put_34 rfl rfl ?_
        refine sp_dup X (pc := 35) dX12_put_35 (sp_cat_rf _) ?_
        refine sp_getfield X (pc := 36) (c := 13) (i := 2) (t := 0) (a := (B 0)) (v := .int (nI d)) rfl hVm33.r.o (by decide) rfl (congrArg Value.int hVm33.cd) fl_Mo_122 dX12_put_36 ?_
        refine sp_iconst X (pc := 39) (v := 1) dX12_put_39 (by decide) ?_
        refine sp_iadd X (pc := 40) dX12_put_40 ?_
        rw [show ((nI d) + 1) = (nI (d + 1)) from (nI_add d 1)]
        refine sp_putI X (pc := 41) (c := 13) (i := 2) (q := 834) (a := (B 0)) rfl hVm33.r.o (by decide) rfl rfl (Or.inl rfl) ⟨rfl, rfl⟩ fl_Mo_122 dX12_put_41 ?_
        obtain ⟨m41, hm41⟩ : ∃ xm, xm = (m33.pI 834 (B 0) (nI (d + 1))) := ⟨_, rfl⟩
        rw [← hm41]
        have hVm41 : sp_V B m0 m41 (fun i => if i = d then x else D i) R l0 l1 (d + 1) n b p t e L ws vq vm vl vs vA vE := by
          rw [hm41]
          exact hVm33.pd (d + 1) (by omega)
        have rk41 : sp_rk B [1] m m41 := by
          rw [hm41]
          exact rk33
        clear hm41
        refine sp_aload_n X (pc := 44) (r := some (B 0)) dX12_put_44 rfl rfl ?_
        refine sp_getfield X (pc := 45) (c := 13) (i := 2) (t := 0) (a := (B 0)) (v := .int (nI (d + 1))) rfl hVm41.r.o (by decide) rfl (congrArg Value.int hVm41.cd) fl_Mo_122 dX12_put_45 ?_
        refine sp_ireturn X (pc := 48) dX12_put_48 rfl ⟨_, rfl, ?_⟩
        refine Or.inr ⟨?_, rfl, hVm41, rk41⟩
        rintro (z | z | z)
        · exact hd1 z
        · exact hb11 z
        · exact absurd hb18 (Int32.not_le.mpr z)
      · refine sp_bipush X (pc := 21) (v := (-5)) dX12_put_21 (by decide) ?_
        refine sp_ireturn X (pc := 23) dX12_put_23 rfl ⟨_, rfl, ?_⟩
        refine Or.inl ⟨?_, rfl, rfl⟩
        first | exact Or.inl hd2 | exact Or.inr (Or.inl hb11) | exact Or.inr (Or.inr (Int32.not_le.mp hb18))
set_option maxHeartbeats 1000000 in
set_option maxRecDepth 20000 in
theorem c_Mo_entry (l : Launch) (G : sp_G) (m : sp_M) {B : Nat → Nat} {m0 : sp_M} {D : Nat → Int32} {R : Int32} {l0 l1 : Int64} {d n b p t e L ws : Nat} {vq vm vl : Int32} {vs : Int64} {vA vE : Nat → Int64} (hVm : sp_V B m0 m D R l0 l1 d n b p t e L ws vq vm vl vs vA vE) {kd x y : Int32} {z : Int64} : sp_C l G M_Mo_entry 0 0 [.ref (B 0), .int kd, .int x, .int y, .long z] m (sp_oI fun v m' => (¬ pu_ent kd x y z p t ∧ v = -7 ∧ m' = m) ∨ (pu_ent kd x y z p t ∧ ¬ e < 100 ∧ v = -6 ∧ m' = m) ∨ (pu_ent kd x y z p t ∧ e < 100 ∧ v = nI e ∧ sp_V B m0 m' D R l0 l1 d n b p t (e + 1) L ws vq vm vl vs vA (fun i => if i = e then z else vE i) ∧ sp_rk B [25, 26, 27] m m' ∧ (m'.aI (B 25) e = kd ∧ m'.aI (B 26) e = x ∧ m'.aI (B 27) e = y ∧ m'.aL (B 28) e = z) ∧ (∀ q, q ≠ e → m'.aI (B 25) q = m.aI (B 25) q ∧ m'.aI (B 26) q = m.aI (B 26) q ∧ m'.aI (B 27) q = m.aI (B 27) q ∧ m'.aL (B 28) q = m.aL (B 28) q))) := by
  refine sp_enter (lv0 := [(0, false, va_rf (some (B 0))), (1, false, .int kd), (2, false, .int x), (3, false, .int y), (4, true, .long z)]) "SafePathsModel" false rfl (by decide) (fun h => by cases h) (Nat.le_of_ble_eq_true rfl) rfl ?_
  intro w X
  have bd := hVm.hd
  have bn := hVm.hn
  have bb := hVm.hb
  have bp := hVm.hp
  have bt := hVm.ht
  have be := hVm.he
  have bw := hVm.hw
  have bL := hVm.hL
  have rkm : sp_rk B [25, 26, 27] m m := sp_rk.refl _ _ _
  have cut113 : ∀ (j : Nat) (u : Int32), j < p → x = nI j → sp_bo u (pu_ent kd (nI j) y z p t) → w 0 0 m 113 [(0, false, va_rf (some (B 0))), (1, false, .int kd), (2, false, .int (nI j)), (3, false, .int y), (4, true, .long z)] [.int u] := by
    intro j u hj hxj hu
    subst hxj
    refine sp_istore X (pc := 113) (lv' := [(6, false, .int u), (0, false, va_rf (some (B 0))), (1, false, .int kd), (2, false, .int (nI j)), (3, false, .int y), (4, true, .long z)]) dX12_entry_113  (by decide) rfl ?_
    refine sp_iload X (pc := 115) (x := u) dX12_entry_115 rfl ?_
    refine sp_if_ne X (pc := 117) (tgt := 123) dX12_entry_117 (by decide) (fun hb117 => ?_) (fun hb117 => ?_)
    · have hok := hu.ne hb117
      refine sp_aload_n X (pc := 123) (r := some (B 0)) dX12_entry_123 rfl rfl ?_
      refine sp_getfield X (pc := 124) (c := 13) (i := 24) (t := 0) (a := (B 0)) (v := .int (nI e)) rfl hVm.r.o (by decide) rfl (congrArg Value.int hVm.ce) fl_Mo_183 dX12_entry_124 ?_
      refine sp_bipush X (pc := 127) (v := 100) dX12_entry_127 (by decide) ?_
      refine sp_icmp_ne X (pc := 129) (tgt := 135) dX12_entry_129 (by decide) (fun hb129 => ?_) (fun hb129 => ?_)
      · have he : e < 100 := by
          have : e ≠ 100 := fun z => hb129 (by rw [z]; rfl)
          omega
        refine sp_aload_n X (pc := 135) (r := some (B 0)) dX12_entry_135 rfl rfl ?_
        refine sp_getfield X (pc := 136) (c := 13) (i := 25) (t := 2) (a := (B 0)) (v := va_rf (some (B 25))) rfl hVm.r.o (by decide) rfl (congrArg va_rf hVm.f25) fl_Mo_63 dX12_entry_136 ?_
        refine sp_aload_n X (pc := 139) (r := some (B 0)) dX12_entry_139 rfl rfl ?_
        refine sp_getfield X (pc := 140) (c := 13) (i := 24) (t := 0) (a := (B 0)) (v := .int (nI e)) rfl hVm.r.o (by decide) rfl (congrArg Value.int hVm.ce) fl_Mo_183 dX12_entry_140 ?_
        refine sp_iload_n X (pc := 143) (x := kd) dX12_entry_143 rfl rfl ?_
        refine sp_iastore X (pc := 144) (a := (B 25)) rfl hVm.y25 (sp_in e hVm.l25 (by omega) (by decide))  dX12_entry_144 ?_
        rw [show (nI e).toNatClampNeg = e from (nI_clamp (n := e) (by omega))]
        obtain ⟨m144, hm144⟩ : ∃ xm, xm = (m.sI (B 25) e kd) := ⟨_, rfl⟩
        rw [← hm144]
        have hVm144 : sp_V B m0 m144 D R l0 l1 d n b p t e L ws vq vm vl vs vA vE := by
          rw [hm144]
          exact hVm.sI 25 e _ (by decide) (by decide) (Nat.le_refl _)
        have rkm144 : sp_rk B [25, 26, 27] m m144 := by
          rw [hm144]
          exact rkm.sI hVm.r 25 _ _ (by decide) (by decide)
        have k25a : m144.aI (B 25) e = kd := by
          rw [hm144]
          rw [sp_sI_aI, if_pos ⟨rfl, rfl⟩]
        have o25a : (∀ q, q ≠ e → m144.aI (B 25) q = m.aI (B 25) q) := by
          rw [hm144]
          intro q hq
          rw [sp_sI_aI, if_neg (fun z => hq z.2)]
        have al144 : m144.aL = m.aL := by
          rw [hm144]
          rfl
        have z26a : m144.aI (B 26) = m.aI (B 26) := by
          rw [hm144]
          funext q
          rw [sp_sI_aI, if_neg (fun z => hVm.ne 26 25 (by decide) (by decide) (by decide) z.1)]
        have z27a : m144.aI (B 27) = m.aI (B 27) := by
          rw [hm144]
          funext q
          rw [sp_sI_aI, if_neg (fun z => hVm.ne 27 25 (by decide) (by decide) (by decide) z.1)]
        clear hm144
        refine sp_aload_n X (pc := 145) (r := some (B 0)) dX12_entry_145 rfl rfl ?_
        refine sp_getfield X (pc := 146) (c := 13) (i := 26) (t := 2) (a := (B 0)) (v := va_rf (some (B 26))) rfl hVm144.r.o (by decide) rfl (congrArg va_rf hVm144.f26) fl_Mo_66 dX12_entry_146 ?_
        refine sp_aload_n X (pc := 149) (r := some (B 0)) dX12_entry_149 rfl rfl ?_
        refine sp_getfield X (pc := 150) (c := 13) (i := 24) (t := 0) (a := (B 0)) (v := .int (nI e)) rfl hVm144.r.o (by decide) rfl (congrArg Value.int hVm144.ce) fl_Mo_183 dX12_entry_150 ?_
        refine sp_iload_n X (pc := 153) (x := nI j) dX12_entry_153 rfl rfl ?_
        refine sp_iastore X (pc := 154) (a := (B 26)) rfl hVm144.y26 (sp_in e hVm144.l26 (by omega) (by decide))  dX12_entry_154 ?_
        rw [show (nI e).toNatClampNeg = e from (nI_clamp (n := e) (by omega))]
        obtain ⟨m154, hm154⟩ : ∃ xm, xm = (m144.sI (B 26) e (nI j)) := ⟨_, rfl⟩
        rw [← hm154]
        have hVm154 : sp_V B m0 m154 D R l0 l1 d n b p t e L ws vq vm vl vs vA vE := by
          rw [hm154]
          exact hVm144.sI 26 e _ (by decide) (by decide) (Nat.le_refl _)
        have rkm154 : sp_rk B [25, 26, 27] m m154 := by
          rw [hm154]
          exact rkm144.sI hVm144.r 26 _ _ (by decide) (by decide)
        have k25b : m154.aI (B 25) e = kd := by
          rw [hm154]
          rw [sp_sI_aI, if_neg (fun z => hVm.ne 25 26 (by decide) (by decide) (by decide) z.1)]; exact k25a
        have k26b : m154.aI (B 26) e = nI j := by
          rw [hm154]
          rw [sp_sI_aI, if_pos ⟨rfl, rfl⟩]
        have o25b : (∀ q, q ≠ e → m154.aI (B 25) q = m.aI (B 25) q) := by
          rw [hm154]
          intro q hq
          rw [sp_sI_aI, if_neg (fun z => hVm.ne 25 26 (by decide) (by decide) (by decide) z.1)]; exact o25a q hq
        have o26b : (∀ q, q ≠ e → m154.aI (B 26) q = m.aI (B 26) q) := by
          rw [hm154]
          intro q hq
          rw [sp_sI_aI, if_neg (fun z => hq z.2)]; exact congrFun z26a q
        have al154 : m154.aL = m.aL := by
          rw [hm154]
          exact al144
        have z27b : m154.aI (B 27) = m.aI (B 27) := by
          rw [hm154]
          funext q
          rw [sp_sI_aI, if_neg (fun z => hVm.ne 27 26 (by decide) (by decide) (by decide) z.1)]; exact congrFun z27a q
        clear hm154
        refine sp_aload_n X (pc := 155) (r := some (B 0)) dX12_entry_155 rfl rfl ?_
        refine sp_getfield X (pc := 156) (c := 13) (i := 27) (t := 2) (a := (B 0)) (v := va_rf (some (B 27))) rfl hVm154.r.o (by decide) rfl (congrArg va_rf hVm154.f27) fl_Mo_69 dX12_entry_156 ?_
        refine sp_aload_n X (pc := 159) (r := some (B 0)) dX12_entry_159 rfl rfl ?_
        refine sp_getfield X (pc := 160) (c := 13) (i := 24) (t := 0) (a := (B 0)) (v := .int (nI e)) rfl hVm154.r.o (by decide) rfl (congrArg Value.int hVm154.ce) fl_Mo_183 dX12_entry_160 ?_
        refine sp_iload_n X (pc := 163) (x := y) dX12_entry_163 rfl rfl ?_
        refine sp_iastore X (pc := 164) (a := (B 27)) rfl hVm154.y27 (sp_in e hVm154.l27 (by omega) (by decide))  dX12_entry_164 ?_
        rw [show (nI e).toNatClampNeg = e from (nI_clamp (n := e) (by omega))]
        obtain ⟨m164, hm164⟩ : ∃ xm, xm = (m154.sI (B 27) e y) := ⟨_, rfl⟩
        rw [← hm164]
        have hVm164 : sp_V B m0 m164 D R l0 l1 d n b p t e L ws vq vm vl vs vA vE := by
          rw [hm164]
          exact hVm154.sI 27 e _ (by decide) (by decide) (Nat.le_refl _)
        have rkm164 : sp_rk B [25, 26, 27] m m164 := by
          rw [hm164]
          exact rkm154.sI hVm154.r 27 _ _ (by decide) (by decide)
        have k25c : m164.aI (B 25) e = kd := by
          rw [hm164]
          rw [sp_sI_aI, if_neg (fun z => hVm.ne 25 27 (by decide) (by decide) (by decide) z.1)]; exact k25b
        have k26c : m164.aI (B 26) e = nI j := by
          rw [hm164]
          rw [sp_sI_aI, if_neg (fun z => hVm.ne 26 27 (by decide) (by decide) (by decide) z.1)]; exact k26b
        have k27c : m164.aI (B 27) e = y := by
          rw [hm164]
          rw [sp_sI_aI, if_pos ⟨rfl, rfl⟩]
        have o25c : (∀ q, q ≠ e → m164.aI (B 25) q = m.aI (B 25) q) := by
          rw [hm164]
          intro q hq
          rw [sp_sI_aI, if_neg (fun z => hVm.ne 25 27 (by decide) (by decide) (by decide) z.1)]; exact o25b q hq
        have o26c : (∀ q, q ≠ e → m164.aI (B 26) q = m.aI (B 26) q) := by
          rw [hm164]
          intro q hq
          rw [sp_sI_aI, if_neg (fun z => hVm.ne 26 27 (by decide) (by decide) (by decide) z.1)]; exact o26b q hq
        have o27c : (∀ q, q ≠ e → m164.aI (B 27) q = m.aI (B 27) q) := by
          rw [hm164]
          intro q hq
          rw [sp_sI_aI, if_neg (fun z => hq z.2)]; exact congrFun z27b q
        have al164 : m164.aL = m.aL := by
          rw [hm164]
          exact al154
        clear hm164
        refine sp_aload_n X (pc := 165) (r := some (B 0)) dX12_entry_165 rfl rfl ?_
        refine sp_getfield X (pc := 166) (c := 13) (i := 28) (t := 2) (a := (B 0)) (v := va_rf (some (B 28))) rfl hVm164.r.o (by decide) rfl (congrArg va_rf hVm164.f28) fl_Mo_72 dX12_entry_166 ?_
        refine sp_aload_n X (pc := 169) (r := some (B 0)) dX12_entry_169 rfl rfl ?_
        refine sp_getfield X (pc := 170) (c := 13) (i := 24) (t := 0) (a := (B 0)) (v := .int (nI e)) rfl hVm164.r.o (by decide) rfl (congrArg Value.int hVm164.ce) fl_Mo_183 dX12_entry_170 ?_
        refine sp_lload X (pc := 173) (x := z) dX12_entry_173 rfl ?_
        refine sp_lastore X (pc := 175) (a := (B 28)) rfl hVm164.y28 (sp_in e hVm164.l28 (by omega) (by decide))  dX12_entry_175 ?_
        rw [show (nI e).toNatClampNeg = e from (nI_clamp (n := e) (by omega))]
        obtain ⟨m175, hm175⟩ : ∃ xm, xm = (m164.sL (B 28) e z) := ⟨_, rfl⟩
        rw [← hm175]
        have hVm175 : sp_V B m0 m175 D R l0 l1 d n b p t e L ws vq vm vl vs vA (fun i => if i = e then z else vE i) := by
          rw [hm175]
          exact hVm164.sE e z
        have rkm175 : sp_rk B [25, 26, 27] m m175 := by
          rw [hm175]
          exact rkm164
        have k25 : m175.aI (B 25) e = kd := by
          rw [hm175]
          exact k25c
        have k26 : m175.aI (B 26) e = nI j := by
          rw [hm175]
          exact k26c
        have k27 : m175.aI (B 27) e = y := by
          rw [hm175]
          exact k27c
        have k28 : m175.aL (B 28) e = z := by
          rw [hm175]
          rw [sp_sL_aL, if_pos ⟨rfl, rfl⟩]
        have o25 : (∀ q, q ≠ e → m175.aI (B 25) q = m.aI (B 25) q) := by
          rw [hm175]
          exact o25c
        have o26 : (∀ q, q ≠ e → m175.aI (B 26) q = m.aI (B 26) q) := by
          rw [hm175]
          exact o26c
        have o27 : (∀ q, q ≠ e → m175.aI (B 27) q = m.aI (B 27) q) := by
          rw [hm175]
          exact o27c
        have o28 : ∀ q, q ≠ e → m175.aL (B 28) q = m.aL (B 28) q := by
          rw [hm175]
          intro q hq
          rw [sp_sL_aL, if_neg (fun z => hq z.2), al164]
        clear hm175
        refine sp_aload_n X (pc := 176) (r := some (B 0)) dX12_entry_176 rfl rfl ?_
        refine sp_dup X (pc := 177) dX12_entry_177 (sp_cat_rf _) ?_
        refine sp_getfield X (pc := 178) (c := 13) (i := 24) (t := 0) (a := (B 0)) (v := .int (nI e)) rfl hVm175.r.o (by decide) rfl (congrArg Value.int hVm175.ce) fl_Mo_183 dX12_entry_178 ?_
        refine sp_iconst X (pc := 181) (v := 1) dX12_entry_181 (by decide) ?_
        refine sp_iadd X (pc := 182) dX12_entry_182 ?_
        rw [show ((nI e) + 1) = (nI (e + 1)) from (nI_add e 1)]
        refine sp_putI X (pc := 183) (c := 13) (i := 24) (q := 856) (a := (B 0)) rfl hVm175.r.o (by decide) rfl rfl (Or.inl rfl) ⟨rfl, rfl⟩ fl_Mo_183 dX12_entry_183 ?_
        obtain ⟨m183, hm183⟩ : ∃ xm, xm = (m175.pI 856 (B 0) (nI (e + 1))) := ⟨_, rfl⟩
        rw [← hm183]
        have hVm183 : sp_V B m0 m183 D R l0 l1 d n b p t (e + 1) L ws vq vm vl vs vA (fun i => if i = e then z else vE i) := by
          rw [hm183]
          exact hVm175.pe (e + 1) (by omega) (by omega) (fun i h1 h2 => by
  obtain rfl : i = e := by omega
  exact ⟨j, k26, hj⟩) (fun i h1 h2 h3 => by
  obtain rfl : i = e := by omega
  rw [k27]
  obtain ⟨q, q1, q2⟩ := hok.2.2.2.2.2.1 (k25.symm.trans h3)
  exact ⟨q, q2, q1⟩) (fun i h1 h2 h3 => by
  obtain rfl : i = e := by omega
  rw [k27]
  obtain ⟨q, q1, q2⟩ := hok.2.2.2.2.2.2 (k25.symm.trans h3)
  exact ⟨q, q2, q1⟩)
        have rkm183 : sp_rk B [25, 26, 27] m m183 := by
          rw [hm183]
          exact rkm175
        have kI : m183.aI = m175.aI := by
          rw [hm183]
          rfl
        have kL : m183.aL = m175.aL := by
          rw [hm183]
          rfl
        clear hm183
        refine sp_aload_n X (pc := 186) (r := some (B 0)) dX12_entry_186 rfl rfl ?_
        refine sp_getfield X (pc := 187) (c := 13) (i := 24) (t := 0) (a := (B 0)) (v := .int (nI (e + 1))) rfl hVm183.r.o (by decide) rfl (congrArg Value.int hVm183.ce) fl_Mo_183 dX12_entry_187 ?_
        refine sp_iconst X (pc := 190) (v := 1) dX12_entry_190 (by decide) ?_
        refine sp_isub X (pc := 191) dX12_entry_191 ?_
        rw [show ((nI (e + 1)) - 1) = (nI e) from nI_pred e]
        refine sp_ireturn X (pc := 192) dX12_entry_192 rfl ⟨_, rfl, ?_⟩
        exact Or.inr (Or.inr ⟨hok, he, rfl, hVm183, rkm183, by rw [kI, kL]; exact ⟨k25, k26, k27, k28⟩, fun q hq => by rw [kI, kL]; exact ⟨o25 q hq, o26 q hq, o27 q hq, o28 q hq⟩⟩)
      · have he : ¬ e < 100 := by
          have := sp_neq (b := 100) hb129 (by omega) (by decide)
          omega
        refine sp_bipush X (pc := 132) (v := (-6)) dX12_entry_132 (by decide) ?_
        refine sp_ireturn X (pc := 134) dX12_entry_134 rfl ⟨_, rfl, ?_⟩
        exact Or.inr (Or.inl ⟨hok, he, rfl, rfl⟩)
    · refine sp_bipush X (pc := 120) (v := (-7)) dX12_entry_120 (by decide) ?_
      refine sp_ireturn X (pc := 122) dX12_entry_122 rfl ⟨_, rfl, ?_⟩
      exact Or.inl ⟨hu.eq hb117, rfl, rfl⟩
  refine sp_iload_n X (pc := 0) (x := kd) dX12_entry_0 rfl rfl ?_
  refine sp_if_lt X (pc := 1) (tgt := 17) dX12_entry_1 (by decide) (fun hb1 => ?_) (fun hb1 => ?_)
  · refine sp_bipush X (pc := 17) (v := (-7)) dX12_entry_17 (by decide) ?_
    refine sp_ireturn X (pc := 19) dX12_entry_19 rfl ⟨_, rfl, ?_⟩
    first
      | exact Or.inl ⟨fun q => q.1 hb1, rfl, rfl⟩
      | exact Or.inl ⟨fun q => absurd hb6 (Int32.not_lt.mpr q.2.1), rfl, rfl⟩
      | exact Or.inl ⟨fun q => by obtain ⟨i, q1, q2⟩ := q.2.2.1; exact hp11.eq hb14 ⟨i, q2, q1⟩, rfl, rfl⟩
  · refine sp_iload_n X (pc := 4) (x := kd) dX12_entry_4 rfl rfl ?_
    refine sp_iconst X (pc := 5) (v := 4) dX12_entry_5 (by decide) ?_
    refine sp_icmp_gt X (pc := 6) (tgt := 17) dX12_entry_6 (by decide) (fun hb6 => ?_) (fun hb6 => ?_)
    · refine sp_bipush X (pc := 17) (v := (-7)) dX12_entry_17 (by decide) ?_
      refine sp_ireturn X (pc := 19) dX12_entry_19 rfl ⟨_, rfl, ?_⟩
      first
        | exact Or.inl ⟨fun q => q.1 hb1, rfl, rfl⟩
        | exact Or.inl ⟨fun q => absurd hb6 (Int32.not_lt.mpr q.2.1), rfl, rfl⟩
        | exact Or.inl ⟨fun q => by obtain ⟨i, q1, q2⟩ := q.2.2.1; exact hp11.eq hb14 ⟨i, q2, q1⟩, rfl, rfl⟩
    · refine sp_aload_n X (pc := 9) (r := some (B 0)) dX12_entry_9 rfl rfl ?_
      refine sp_iload_n X (pc := 10) (x := x) dX12_entry_10 rfl rfl ?_
      refine sp_callV X (pc := 11) (mc := 0) (ms := 0) (b := (B 0)) (c := 13) (r := some (B 0)) (As := [.int x]) (rest := []) (c_Mo_isPath l G _ hVm) ok_Mo_isPath rfl hVm.r.o (by decide) rfl lk_Mo_149 rfl rfl (Nat.zero_le _) (Nat.le_of_ble_eq_true rfl) (Nat.le_of_ble_eq_true rfl) (Nat.zero_le _) (Nat.zero_le _) dX12_entry_11 (sp_kI fun v11 m11 hp11 => ?_)
      obtain ⟨hp11, hp11m⟩ := hp11; replace hp11m := (hp11m).symm; subst hp11m
      refine sp_if_ne X (pc := 14) (tgt := 20) dX12_entry_14 (by decide) (fun hb14 => ?_) (fun hb14 => ?_)
      · obtain ⟨j, rfl, hj⟩ := hp11.ne hb14
        have hj9 : ∃ i, i < p ∧ nI j = nI i := ⟨j, hj, rfl⟩
        refine sp_iload_n X (pc := 20) (x := kd) dX12_entry_20 rfl rfl ?_
        have hkd : ¬ kd < 0 ∧ kd ≤ 4 := ⟨hb1, Int32.not_lt.mp hb6⟩
        refine sp_if_ne X (pc := 21) (tgt := 41) dX12_entry_21 (by decide) (fun hb21 => ?_) (fun hb21 => ?_)
        · refine sp_iload_n X (pc := 41) (x := kd) dX12_entry_41 rfl rfl ?_
          refine sp_iconst X (pc := 42) (v := 1) dX12_entry_42 (by decide) ?_
          refine sp_icmp_ne X (pc := 43) (tgt := 70) dX12_entry_43 (by decide) (fun hb43 => ?_) (fun hb43 => ?_)
          · refine sp_iload_n X (pc := 70) (x := kd) dX12_entry_70 rfl rfl ?_
            refine sp_iconst X (pc := 71) (v := 2) dX12_entry_71 (by decide) ?_
            refine sp_icmp_ne X (pc := 72) (tgt := 95) dX12_entry_72 (by decide) (fun hb72 => ?_) (fun hb72 => ?_)
            · refine sp_iload_n X (pc := 95) (x := kd) dX12_entry_95 rfl rfl ?_
              refine sp_iconst X (pc := 96) (v := 4) dX12_entry_96 (by decide) ?_
              refine sp_icmp_eq X (pc := 97) (tgt := 108) dX12_entry_97 (by decide) (fun hb97 => ?_) (fun hb97 => ?_)
              · refine sp_iconst X (pc := 108) (v := 1) dX12_entry_108 (by decide) ?_
                refine sp_goto X (pc := 109) (tgt := 113) dX12_entry_109 (by decide) ?_
                first
                  | exact cut113 j 1 hj rfl (sp_bo.t ((pu_ent.iff0 hb21 hj9).mpr (Or.inl hb25)))
                  | exact cut113 j 1 hj rfl (sp_bo.t ((pu_ent.iff0 hb21 hj9).mpr (Or.inr hb30)))
                  | exact cut113 j 0 hj rfl (sp_bo.f (fun q => ((pu_ent.iff0 hb21 hj9).mp q).elim hb25 hb30))
                  | exact cut113 j 1 hj rfl (sp_bo.t ((pu_ent.iff1 hb43 hj9).mpr ⟨sp_lge (Int32.not_lt.mp hb50), pu_cle (Int32.not_lt.mp hb59)⟩))
                  | exact cut113 j 0 hj rfl (sp_bo.f (fun q => ((pu_ent.iff1 hb43 hj9).mp q).1 (sp_llt (Int32.not_le.mpr hb50))))
                  | exact cut113 j 0 hj rfl (sp_bo.f (fun q => pu_cgt (Int32.not_le.mpr hb59) ((pu_ent.iff1 hb43 hj9).mp q).2))
                  | exact cut113 j 1 hj rfl (sp_bo.t ((pu_ent.iff2 hb72 hj9).mpr hyq))
                  | exact cut113 j 0 hj rfl (sp_bo.f (fun q => hny ((pu_ent.iff2 hb72 hj9).mp q)))
                  | exact cut113 j 1 hj rfl (sp_bo.t (pu_ent.of4 hb97 hj9))
                  | exact cut113 j 1 hj rfl (sp_bo.t ((pu_ent.iff3 hk3 hj9).mpr (by obtain ⟨q, q1, q2⟩ := hp102.ne hb105; exact ⟨q, q2, q1⟩)))
                  | exact cut113 j 0 hj rfl (sp_bo.f (fun w => by obtain ⟨q, q1, q2⟩ := (pu_ent.iff3 hk3 hj9).mp w; exact hp102.eq hb105 ⟨q, q2, q1⟩))
              · have hk3 : kd = 3 := pu_k3 hkd.1 hkd.2 hb21 hb43 hb72 hb97
                refine sp_aload_n X (pc := 100) (r := some (B 0)) dX12_entry_100 rfl rfl ?_
                refine sp_iload_n X (pc := 101) (x := y) dX12_entry_101 rfl rfl ?_
                refine sp_callV X (pc := 102) (mc := 0) (ms := 0) (b := (B 0)) (c := 13) (r := some (B 0)) (As := [.int y]) (rest := []) (c_Mo_isPath l G _ hVm) ok_Mo_isPath rfl hVm.r.o (by decide) rfl lk_Mo_149 rfl rfl (Nat.zero_le _) (Nat.le_of_ble_eq_true rfl) (Nat.le_of_ble_eq_true rfl) (Nat.zero_le _) (Nat.zero_le _) dX12_entry_102 (sp_kI fun v102 m102 hp102 => ?_)
                obtain ⟨hp102, hp102m⟩ := hp102; replace hp102m := (hp102m).symm; subst hp102m
                refine sp_if_eq X (pc := 105) (tgt := 112) dX12_entry_105 (by decide) (fun hb105 => ?_) (fun hb105 => ?_)
                · refine sp_iconst X (pc := 112) (v := 0) dX12_entry_112 (by decide) ?_
                  first
                    | exact cut113 j 1 hj rfl (sp_bo.t ((pu_ent.iff0 hb21 hj9).mpr (Or.inl hb25)))
                    | exact cut113 j 1 hj rfl (sp_bo.t ((pu_ent.iff0 hb21 hj9).mpr (Or.inr hb30)))
                    | exact cut113 j 0 hj rfl (sp_bo.f (fun q => ((pu_ent.iff0 hb21 hj9).mp q).elim hb25 hb30))
                    | exact cut113 j 1 hj rfl (sp_bo.t ((pu_ent.iff1 hb43 hj9).mpr ⟨sp_lge (Int32.not_lt.mp hb50), pu_cle (Int32.not_lt.mp hb59)⟩))
                    | exact cut113 j 0 hj rfl (sp_bo.f (fun q => ((pu_ent.iff1 hb43 hj9).mp q).1 (sp_llt (Int32.not_le.mpr hb50))))
                    | exact cut113 j 0 hj rfl (sp_bo.f (fun q => pu_cgt (Int32.not_le.mpr hb59) ((pu_ent.iff1 hb43 hj9).mp q).2))
                    | exact cut113 j 1 hj rfl (sp_bo.t ((pu_ent.iff2 hb72 hj9).mpr hyq))
                    | exact cut113 j 0 hj rfl (sp_bo.f (fun q => hny ((pu_ent.iff2 hb72 hj9).mp q)))
                    | exact cut113 j 1 hj rfl (sp_bo.t (pu_ent.of4 hb97 hj9))
                    | exact cut113 j 1 hj rfl (sp_bo.t ((pu_ent.iff3 hk3 hj9).mpr (by obtain ⟨q, q1, q2⟩ := hp102.ne hb105; exact ⟨q, q2, q1⟩)))
                    | exact cut113 j 0 hj rfl (sp_bo.f (fun w => by obtain ⟨q, q1, q2⟩ := (pu_ent.iff3 hk3 hj9).mp w; exact hp102.eq hb105 ⟨q, q2, q1⟩))
                · refine sp_iconst X (pc := 108) (v := 1) dX12_entry_108 (by decide) ?_
                  refine sp_goto X (pc := 109) (tgt := 113) dX12_entry_109 (by decide) ?_
                  first
                    | exact cut113 j 1 hj rfl (sp_bo.t ((pu_ent.iff0 hb21 hj9).mpr (Or.inl hb25)))
                    | exact cut113 j 1 hj rfl (sp_bo.t ((pu_ent.iff0 hb21 hj9).mpr (Or.inr hb30)))
                    | exact cut113 j 0 hj rfl (sp_bo.f (fun q => ((pu_ent.iff0 hb21 hj9).mp q).elim hb25 hb30))
                    | exact cut113 j 1 hj rfl (sp_bo.t ((pu_ent.iff1 hb43 hj9).mpr ⟨sp_lge (Int32.not_lt.mp hb50), pu_cle (Int32.not_lt.mp hb59)⟩))
                    | exact cut113 j 0 hj rfl (sp_bo.f (fun q => ((pu_ent.iff1 hb43 hj9).mp q).1 (sp_llt (Int32.not_le.mpr hb50))))
                    | exact cut113 j 0 hj rfl (sp_bo.f (fun q => pu_cgt (Int32.not_le.mpr hb59) ((pu_ent.iff1 hb43 hj9).mp q).2))
                    | exact cut113 j 1 hj rfl (sp_bo.t ((pu_ent.iff2 hb72 hj9).mpr hyq))
                    | exact cut113 j 0 hj rfl (sp_bo.f (fun q => hny ((pu_ent.iff2 hb72 hj9).mp q)))
                    | exact cut113 j 1 hj rfl (sp_bo.t (pu_ent.of4 hb97 hj9))
                    | exact cut113 j 1 hj rfl (sp_bo.t ((pu_ent.iff3 hk3 hj9).mpr (by obtain ⟨q, q1, q2⟩ := hp102.ne hb105; exact ⟨q, q2, q1⟩)))
                    | exact cut113 j 0 hj rfl (sp_bo.f (fun w => by obtain ⟨q, q1, q2⟩ := (pu_ent.iff3 hk3 hj9).mp w; exact hp102.eq hb105 ⟨q, q2, q1⟩))
            · refine sp_iload_n X (pc := 75) (x := y) dX12_entry_75 rfl rfl ?_
              refine sp_if_lt X (pc := 76) (tgt := 91) dX12_entry_76 (by decide) (fun hb76 => ?_) (fun hb76 => ?_)
              · have hny : ¬ ∃ q, q < t ∧ y = nI q := fun ⟨q, q1, q2⟩ => by rw [q2] at hb76; exact nI_pos (by omega) hb76
                refine sp_iconst X (pc := 91) (v := 0) dX12_entry_91 (by decide) ?_
                refine sp_goto X (pc := 92) (tgt := 113) dX12_entry_92 (by decide) ?_
                first
                  | exact cut113 j 1 hj rfl (sp_bo.t ((pu_ent.iff0 hb21 hj9).mpr (Or.inl hb25)))
                  | exact cut113 j 1 hj rfl (sp_bo.t ((pu_ent.iff0 hb21 hj9).mpr (Or.inr hb30)))
                  | exact cut113 j 0 hj rfl (sp_bo.f (fun q => ((pu_ent.iff0 hb21 hj9).mp q).elim hb25 hb30))
                  | exact cut113 j 1 hj rfl (sp_bo.t ((pu_ent.iff1 hb43 hj9).mpr ⟨sp_lge (Int32.not_lt.mp hb50), pu_cle (Int32.not_lt.mp hb59)⟩))
                  | exact cut113 j 0 hj rfl (sp_bo.f (fun q => ((pu_ent.iff1 hb43 hj9).mp q).1 (sp_llt (Int32.not_le.mpr hb50))))
                  | exact cut113 j 0 hj rfl (sp_bo.f (fun q => pu_cgt (Int32.not_le.mpr hb59) ((pu_ent.iff1 hb43 hj9).mp q).2))
                  | exact cut113 j 1 hj rfl (sp_bo.t ((pu_ent.iff2 hb72 hj9).mpr hyq))
                  | exact cut113 j 0 hj rfl (sp_bo.f (fun q => hny ((pu_ent.iff2 hb72 hj9).mp q)))
                  | exact cut113 j 1 hj rfl (sp_bo.t (pu_ent.of4 hb97 hj9))
                  | exact cut113 j 1 hj rfl (sp_bo.t ((pu_ent.iff3 hk3 hj9).mpr (by obtain ⟨q, q1, q2⟩ := hp102.ne hb105; exact ⟨q, q2, q1⟩)))
                  | exact cut113 j 0 hj rfl (sp_bo.f (fun w => by obtain ⟨q, q1, q2⟩ := (pu_ent.iff3 hk3 hj9).mp w; exact hp102.eq hb105 ⟨q, q2, q1⟩))
              · refine sp_iload_n X (pc := 79) (x := y) dX12_entry_79 rfl rfl ?_
                refine sp_aload_n X (pc := 80) (r := some (B 0)) dX12_entry_80 rfl rfl ?_
                refine sp_getfield X (pc := 81) (c := 13) (i := 21) (t := 0) (a := (B 0)) (v := .int (nI t)) rfl hVm.r.o (by decide) rfl (congrArg Value.int hVm.ct) fl_Mo_152 dX12_entry_81 ?_
                refine sp_icmp_ge X (pc := 84) (tgt := 91) dX12_entry_84 (by decide) (fun hb84 => ?_) (fun hb84 => ?_)
                · have hny : ¬ ∃ q, q < t ∧ y = nI q := fun ⟨q, q1, q2⟩ => by rw [q2] at hb84; have := sp_nge hb84 (by omega) (by omega); omega
                  refine sp_iconst X (pc := 91) (v := 0) dX12_entry_91 (by decide) ?_
                  refine sp_goto X (pc := 92) (tgt := 113) dX12_entry_92 (by decide) ?_
                  first
                    | exact cut113 j 1 hj rfl (sp_bo.t ((pu_ent.iff0 hb21 hj9).mpr (Or.inl hb25)))
                    | exact cut113 j 1 hj rfl (sp_bo.t ((pu_ent.iff0 hb21 hj9).mpr (Or.inr hb30)))
                    | exact cut113 j 0 hj rfl (sp_bo.f (fun q => ((pu_ent.iff0 hb21 hj9).mp q).elim hb25 hb30))
                    | exact cut113 j 1 hj rfl (sp_bo.t ((pu_ent.iff1 hb43 hj9).mpr ⟨sp_lge (Int32.not_lt.mp hb50), pu_cle (Int32.not_lt.mp hb59)⟩))
                    | exact cut113 j 0 hj rfl (sp_bo.f (fun q => ((pu_ent.iff1 hb43 hj9).mp q).1 (sp_llt (Int32.not_le.mpr hb50))))
                    | exact cut113 j 0 hj rfl (sp_bo.f (fun q => pu_cgt (Int32.not_le.mpr hb59) ((pu_ent.iff1 hb43 hj9).mp q).2))
                    | exact cut113 j 1 hj rfl (sp_bo.t ((pu_ent.iff2 hb72 hj9).mpr hyq))
                    | exact cut113 j 0 hj rfl (sp_bo.f (fun q => hny ((pu_ent.iff2 hb72 hj9).mp q)))
                    | exact cut113 j 1 hj rfl (sp_bo.t (pu_ent.of4 hb97 hj9))
                    | exact cut113 j 1 hj rfl (sp_bo.t ((pu_ent.iff3 hk3 hj9).mpr (by obtain ⟨q, q1, q2⟩ := hp102.ne hb105; exact ⟨q, q2, q1⟩)))
                    | exact cut113 j 0 hj rfl (sp_bo.f (fun w => by obtain ⟨q, q1, q2⟩ := (pu_ent.iff3 hk3 hj9).mp w; exact hp102.eq hb105 ⟨q, q2, q1⟩))
                · have hyq : ∃ q, q < t ∧ y = nI q := sp_idx (s := t) (by omega) hb76 hb84
                  refine sp_iconst X (pc := 87) (v := 1) dX12_entry_87 (by decide) ?_
                  refine sp_goto X (pc := 88) (tgt := 113) dX12_entry_88 (by decide) ?_
                  first
                    | exact cut113 j 1 hj rfl (sp_bo.t ((pu_ent.iff0 hb21 hj9).mpr (Or.inl hb25)))
                    | exact cut113 j 1 hj rfl (sp_bo.t ((pu_ent.iff0 hb21 hj9).mpr (Or.inr hb30)))
                    | exact cut113 j 0 hj rfl (sp_bo.f (fun q => ((pu_ent.iff0 hb21 hj9).mp q).elim hb25 hb30))
                    | exact cut113 j 1 hj rfl (sp_bo.t ((pu_ent.iff1 hb43 hj9).mpr ⟨sp_lge (Int32.not_lt.mp hb50), pu_cle (Int32.not_lt.mp hb59)⟩))
                    | exact cut113 j 0 hj rfl (sp_bo.f (fun q => ((pu_ent.iff1 hb43 hj9).mp q).1 (sp_llt (Int32.not_le.mpr hb50))))
                    | exact cut113 j 0 hj rfl (sp_bo.f (fun q => pu_cgt (Int32.not_le.mpr hb59) ((pu_ent.iff1 hb43 hj9).mp q).2))
                    | exact cut113 j 1 hj rfl (sp_bo.t ((pu_ent.iff2 hb72 hj9).mpr hyq))
                    | exact cut113 j 0 hj rfl (sp_bo.f (fun q => hny ((pu_ent.iff2 hb72 hj9).mp q)))
                    | exact cut113 j 1 hj rfl (sp_bo.t (pu_ent.of4 hb97 hj9))
                    | exact cut113 j 1 hj rfl (sp_bo.t ((pu_ent.iff3 hk3 hj9).mpr (by obtain ⟨q, q1, q2⟩ := hp102.ne hb105; exact ⟨q, q2, q1⟩)))
                    | exact cut113 j 0 hj rfl (sp_bo.f (fun w => by obtain ⟨q, q1, q2⟩ := (pu_ent.iff3 hk3 hj9).mp w; exact hp102.eq hb105 ⟨q, q2, q1⟩))
          · refine sp_lload X (pc := 46) (x := z) dX12_entry_46 rfl ?_
            refine sp_lconst X (pc := 48) (v := 0) dX12_entry_48 (by decide) ?_
            refine sp_lcmp X (pc := 49) dX12_entry_49 ?_
            refine sp_if_lt X (pc := 50) (tgt := 66) dX12_entry_50 (by decide) (fun hb50 => ?_) (fun hb50 => ?_)
            · refine sp_iconst X (pc := 66) (v := 0) dX12_entry_66 (by decide) ?_
              refine sp_goto X (pc := 67) (tgt := 113) dX12_entry_67 (by decide) ?_
              first
                | exact cut113 j 1 hj rfl (sp_bo.t ((pu_ent.iff0 hb21 hj9).mpr (Or.inl hb25)))
                | exact cut113 j 1 hj rfl (sp_bo.t ((pu_ent.iff0 hb21 hj9).mpr (Or.inr hb30)))
                | exact cut113 j 0 hj rfl (sp_bo.f (fun q => ((pu_ent.iff0 hb21 hj9).mp q).elim hb25 hb30))
                | exact cut113 j 1 hj rfl (sp_bo.t ((pu_ent.iff1 hb43 hj9).mpr ⟨sp_lge (Int32.not_lt.mp hb50), pu_cle (Int32.not_lt.mp hb59)⟩))
                | exact cut113 j 0 hj rfl (sp_bo.f (fun q => ((pu_ent.iff1 hb43 hj9).mp q).1 (sp_llt (Int32.not_le.mpr hb50))))
                | exact cut113 j 0 hj rfl (sp_bo.f (fun q => pu_cgt (Int32.not_le.mpr hb59) ((pu_ent.iff1 hb43 hj9).mp q).2))
                | exact cut113 j 1 hj rfl (sp_bo.t ((pu_ent.iff2 hb72 hj9).mpr hyq))
                | exact cut113 j 0 hj rfl (sp_bo.f (fun q => hny ((pu_ent.iff2 hb72 hj9).mp q)))
                | exact cut113 j 1 hj rfl (sp_bo.t (pu_ent.of4 hb97 hj9))
                | exact cut113 j 1 hj rfl (sp_bo.t ((pu_ent.iff3 hk3 hj9).mpr (by obtain ⟨q, q1, q2⟩ := hp102.ne hb105; exact ⟨q, q2, q1⟩)))
                | exact cut113 j 0 hj rfl (sp_bo.f (fun w => by obtain ⟨q, q1, q2⟩ := (pu_ent.iff3 hk3 hj9).mp w; exact hp102.eq hb105 ⟨q, q2, q1⟩))
            · refine sp_lload X (pc := 53) (x := z) dX12_entry_53 rfl ?_
              refine sp_ldc2 X (pc := 55) (v := 1099511627776) kl_Mo_181 dX12_entry_55 ?_
              refine sp_lcmp X (pc := 58) dX12_entry_58 ?_
              refine sp_if_gt X (pc := 59) (tgt := 66) dX12_entry_59 (by decide) (fun hb59 => ?_) (fun hb59 => ?_)
              · refine sp_iconst X (pc := 66) (v := 0) dX12_entry_66 (by decide) ?_
                refine sp_goto X (pc := 67) (tgt := 113) dX12_entry_67 (by decide) ?_
                first
                  | exact cut113 j 1 hj rfl (sp_bo.t ((pu_ent.iff0 hb21 hj9).mpr (Or.inl hb25)))
                  | exact cut113 j 1 hj rfl (sp_bo.t ((pu_ent.iff0 hb21 hj9).mpr (Or.inr hb30)))
                  | exact cut113 j 0 hj rfl (sp_bo.f (fun q => ((pu_ent.iff0 hb21 hj9).mp q).elim hb25 hb30))
                  | exact cut113 j 1 hj rfl (sp_bo.t ((pu_ent.iff1 hb43 hj9).mpr ⟨sp_lge (Int32.not_lt.mp hb50), pu_cle (Int32.not_lt.mp hb59)⟩))
                  | exact cut113 j 0 hj rfl (sp_bo.f (fun q => ((pu_ent.iff1 hb43 hj9).mp q).1 (sp_llt (Int32.not_le.mpr hb50))))
                  | exact cut113 j 0 hj rfl (sp_bo.f (fun q => pu_cgt (Int32.not_le.mpr hb59) ((pu_ent.iff1 hb43 hj9).mp q).2))
                  | exact cut113 j 1 hj rfl (sp_bo.t ((pu_ent.iff2 hb72 hj9).mpr hyq))
                  | exact cut113 j 0 hj rfl (sp_bo.f (fun q => hny ((pu_ent.iff2 hb72 hj9).mp q)))
                  | exact cut113 j 1 hj rfl (sp_bo.t (pu_ent.of4 hb97 hj9))
                  | exact cut113 j 1 hj rfl (sp_bo.t ((pu_ent.iff3 hk3 hj9).mpr (by obtain ⟨q, q1, q2⟩ := hp102.ne hb105; exact ⟨q, q2, q1⟩)))
                  | exact cut113 j 0 hj rfl (sp_bo.f (fun w => by obtain ⟨q, q1, q2⟩ := (pu_ent.iff3 hk3 hj9).mp w; exact hp102.eq hb105 ⟨q, q2, q1⟩))
              · refine sp_iconst X (pc := 62) (v := 1) dX12_entry_62 (by decide) ?_
                refine sp_goto X (pc := 63) (tgt := 113) dX12_entry_63 (by decide) ?_
                first
                  | exact cut113 j 1 hj rfl (sp_bo.t ((pu_ent.iff0 hb21 hj9).mpr (Or.inl hb25)))
                  | exact cut113 j 1 hj rfl (sp_bo.t ((pu_ent.iff0 hb21 hj9).mpr (Or.inr hb30)))
                  | exact cut113 j 0 hj rfl (sp_bo.f (fun q => ((pu_ent.iff0 hb21 hj9).mp q).elim hb25 hb30))
                  | exact cut113 j 1 hj rfl (sp_bo.t ((pu_ent.iff1 hb43 hj9).mpr ⟨sp_lge (Int32.not_lt.mp hb50), pu_cle (Int32.not_lt.mp hb59)⟩))
                  | exact cut113 j 0 hj rfl (sp_bo.f (fun q => ((pu_ent.iff1 hb43 hj9).mp q).1 (sp_llt (Int32.not_le.mpr hb50))))
                  | exact cut113 j 0 hj rfl (sp_bo.f (fun q => pu_cgt (Int32.not_le.mpr hb59) ((pu_ent.iff1 hb43 hj9).mp q).2))
                  | exact cut113 j 1 hj rfl (sp_bo.t ((pu_ent.iff2 hb72 hj9).mpr hyq))
                  | exact cut113 j 0 hj rfl (sp_bo.f (fun q => hny ((pu_ent.iff2 hb72 hj9).mp q)))
                  | exact cut113 j 1 hj rfl (sp_bo.t (pu_ent.of4 hb97 hj9))
                  | exact cut113 j 1 hj rfl (sp_bo.t ((pu_ent.iff3 hk3 hj9).mpr (by obtain ⟨q, q1, q2⟩ := hp102.ne hb105; exact ⟨q, q2, q1⟩)))
                  | exact cut113 j 0 hj rfl (sp_bo.f (fun w => by obtain ⟨q, q1, q2⟩ := (pu_ent.iff3 hk3 hj9).mp w; exact hp102.eq hb105 ⟨q, q2, q1⟩))
        · refine sp_iload_n X (pc := 24) (x := y) dX12_entry_24 rfl rfl ?_
          refine sp_if_eq X (pc := 25) (tgt := 33) dX12_entry_25 (by decide) (fun hb25 => ?_) (fun hb25 => ?_)
          · refine sp_iconst X (pc := 33) (v := 1) dX12_entry_33 (by decide) ?_
            refine sp_goto X (pc := 34) (tgt := 113) dX12_entry_34 (by decide) ?_
            first
              | exact cut113 j 1 hj rfl (sp_bo.t ((pu_ent.iff0 hb21 hj9).mpr (Or.inl hb25)))
              | exact cut113 j 1 hj rfl (sp_bo.t ((pu_ent.iff0 hb21 hj9).mpr (Or.inr hb30)))
              | exact cut113 j 0 hj rfl (sp_bo.f (fun q => ((pu_ent.iff0 hb21 hj9).mp q).elim hb25 hb30))
              | exact cut113 j 1 hj rfl (sp_bo.t ((pu_ent.iff1 hb43 hj9).mpr ⟨sp_lge (Int32.not_lt.mp hb50), pu_cle (Int32.not_lt.mp hb59)⟩))
              | exact cut113 j 0 hj rfl (sp_bo.f (fun q => ((pu_ent.iff1 hb43 hj9).mp q).1 (sp_llt (Int32.not_le.mpr hb50))))
              | exact cut113 j 0 hj rfl (sp_bo.f (fun q => pu_cgt (Int32.not_le.mpr hb59) ((pu_ent.iff1 hb43 hj9).mp q).2))
              | exact cut113 j 1 hj rfl (sp_bo.t ((pu_ent.iff2 hb72 hj9).mpr hyq))
              | exact cut113 j 0 hj rfl (sp_bo.f (fun q => hny ((pu_ent.iff2 hb72 hj9).mp q)))
              | exact cut113 j 1 hj rfl (sp_bo.t (pu_ent.of4 hb97 hj9))
              | exact cut113 j 1 hj rfl (sp_bo.t ((pu_ent.iff3 hk3 hj9).mpr (by obtain ⟨q, q1, q2⟩ := hp102.ne hb105; exact ⟨q, q2, q1⟩)))
              | exact cut113 j 0 hj rfl (sp_bo.f (fun w => by obtain ⟨q, q1, q2⟩ := (pu_ent.iff3 hk3 hj9).mp w; exact hp102.eq hb105 ⟨q, q2, q1⟩))
          · refine sp_iload_n X (pc := 28) (x := y) dX12_entry_28 rfl rfl ?_
            refine sp_iconst X (pc := 29) (v := 1) dX12_entry_29 (by decide) ?_
            refine sp_icmp_ne X (pc := 30) (tgt := 37) dX12_entry_30 (by decide) (fun hb30 => ?_) (fun hb30 => ?_)
            · refine sp_iconst X (pc := 37) (v := 0) dX12_entry_37 (by decide) ?_
              refine sp_goto X (pc := 38) (tgt := 113) dX12_entry_38 (by decide) ?_
              first
                | exact cut113 j 1 hj rfl (sp_bo.t ((pu_ent.iff0 hb21 hj9).mpr (Or.inl hb25)))
                | exact cut113 j 1 hj rfl (sp_bo.t ((pu_ent.iff0 hb21 hj9).mpr (Or.inr hb30)))
                | exact cut113 j 0 hj rfl (sp_bo.f (fun q => ((pu_ent.iff0 hb21 hj9).mp q).elim hb25 hb30))
                | exact cut113 j 1 hj rfl (sp_bo.t ((pu_ent.iff1 hb43 hj9).mpr ⟨sp_lge (Int32.not_lt.mp hb50), pu_cle (Int32.not_lt.mp hb59)⟩))
                | exact cut113 j 0 hj rfl (sp_bo.f (fun q => ((pu_ent.iff1 hb43 hj9).mp q).1 (sp_llt (Int32.not_le.mpr hb50))))
                | exact cut113 j 0 hj rfl (sp_bo.f (fun q => pu_cgt (Int32.not_le.mpr hb59) ((pu_ent.iff1 hb43 hj9).mp q).2))
                | exact cut113 j 1 hj rfl (sp_bo.t ((pu_ent.iff2 hb72 hj9).mpr hyq))
                | exact cut113 j 0 hj rfl (sp_bo.f (fun q => hny ((pu_ent.iff2 hb72 hj9).mp q)))
                | exact cut113 j 1 hj rfl (sp_bo.t (pu_ent.of4 hb97 hj9))
                | exact cut113 j 1 hj rfl (sp_bo.t ((pu_ent.iff3 hk3 hj9).mpr (by obtain ⟨q, q1, q2⟩ := hp102.ne hb105; exact ⟨q, q2, q1⟩)))
                | exact cut113 j 0 hj rfl (sp_bo.f (fun w => by obtain ⟨q, q1, q2⟩ := (pu_ent.iff3 hk3 hj9).mp w; exact hp102.eq hb105 ⟨q, q2, q1⟩))
            · refine sp_iconst X (pc := 33) (v := 1) dX12_entry_33 (by decide) ?_
              refine sp_goto X (pc := 34) (tgt := 113) dX12_entry_34 (by decide) ?_
              first
                | exact cut113 j 1 hj rfl (sp_bo.t ((pu_ent.iff0 hb21 hj9).mpr (Or.inl hb25)))
                | exact cut113 j 1 hj rfl (sp_bo.t ((pu_ent.iff0 hb21 hj9).mpr (Or.inr hb30)))
                | exact cut113 j 0 hj rfl (sp_bo.f (fun q => ((pu_ent.iff0 hb21 hj9).mp q).elim hb25 hb30))
                | exact cut113 j 1 hj rfl (sp_bo.t ((pu_ent.iff1 hb43 hj9).mpr ⟨sp_lge (Int32.not_lt.mp hb50), pu_cle (Int32.not_lt.mp hb59)⟩))
                | exact cut113 j 0 hj rfl (sp_bo.f (fun q => ((pu_ent.iff1 hb43 hj9).mp q).1 (sp_llt (Int32.not_le.mpr hb50))))
                | exact cut113 j 0 hj rfl (sp_bo.f (fun q => pu_cgt (Int32.not_le.mpr hb59) ((pu_ent.iff1 hb43 hj9).mp q).2))
                | exact cut113 j 1 hj rfl (sp_bo.t ((pu_ent.iff2 hb72 hj9).mpr hyq))
                | exact cut113 j 0 hj rfl (sp_bo.f (fun q => hny ((pu_ent.iff2 hb72 hj9).mp q)))
                | exact cut113 j 1 hj rfl (sp_bo.t (pu_ent.of4 hb97 hj9))
                | exact cut113 j 1 hj rfl (sp_bo.t ((pu_ent.iff3 hk3 hj9).mpr (by obtain ⟨q, q1, q2⟩ := hp102.ne hb105; exact ⟨q, q2, q1⟩)))
                | exact cut113 j 0 hj rfl (sp_bo.f (fun w => by obtain ⟨q, q1, q2⟩ := (pu_ent.iff3 hk3 hj9).mp w; exact hp102.eq hb105 ⟨q, q2, q1⟩))
      · refine sp_bipush X (pc := 17) (v := (-7)) dX12_entry_17 (by decide) ?_
        refine sp_ireturn X (pc := 19) dX12_entry_19 rfl ⟨_, rfl, ?_⟩
        first
          | exact Or.inl ⟨fun q => q.1 hb1, rfl, rfl⟩
          | exact Or.inl ⟨fun q => absurd hb6 (Int32.not_lt.mpr q.2.1), rfl, rfl⟩
          | exact Or.inl ⟨fun q => by obtain ⟨i, q1, q2⟩ := q.2.2.1; exact hp11.eq hb14 ⟨i, q2, q1⟩, rfl, rfl⟩
set_option maxRecDepth 20000 in
theorem c_Mo_target (l : Launch) (G : sp_G) (m : sp_M) {B : Nat → Nat} {m0 : sp_M} {D : Nat → Int32} {R : Int32} {l0 l1 : Int64} {d n b p t e L ws : Nat} {vq vm vl : Int32} {vs : Int64} {vA vE : Nat → Int64} (hVm : sp_V B m0 m D R l0 l1 d n b p t e L ws vq vm vl vs vA vE) {TT : Nat → List Int32} (hT : sp_mT m B t TT) (hTl : pu_Tt t TT) : sp_C l G M_Mo_target 0 0 [.ref (B 0)] m (sp_oI fun v m' => (1 ≤ d ∧ d ≤ 40 ∧ t < 40 ∧ v = nI t ∧ sp_V B m0 m' D R l0 l1 0 n b p (t + 1) e L ws vq vm vl vs vA vE ∧ sp_rk B [22, 23] m m' ∧ sp_mT m' B (t + 1) (fun j => if j = t then sp_seg D 0 d else TT j)) ∨ ((d < 1 ∨ 40 < d) ∧ v = -1 ∧ sp_V B m0 m' D R l0 l1 0 n b p t e L ws vq vm vl vs vA vE ∧ sp_rk B [] m m') ∨ (1 ≤ d ∧ d ≤ 40 ∧ ¬ t < 40 ∧ v = -6 ∧ sp_V B m0 m' D R l0 l1 0 n b p t e L ws vq vm vl vs vA vE ∧ sp_rk B [] m m')) := by
  refine sp_enter (lv0 := [(0, false, va_rf (some (B 0)))]) "SafePathsModel" false rfl (by decide) (fun h => by cases h) (Nat.le_of_ble_eq_true rfl) rfl ?_
  intro w X
  have bd := hVm.hd
  have bn := hVm.hn
  have bb := hVm.hb
  have bp := hVm.hp
  have bt := hVm.ht
  have be := hVm.he
  have bw := hVm.hw
  have bL := hVm.hL
  refine sp_aload_n X (pc := 0) (r := some (B 0)) dX12_target_0 rfl rfl ?_
  refine sp_getfield X (pc := 1) (c := 13) (i := 2) (t := 0) (a := (B 0)) (v := .int (nI d)) rfl hVm.r.o (by decide) rfl (congrArg Value.int hVm.cd) fl_Mo_122 dX12_target_1 ?_
  refine sp_istore_n X (pc := 4) (lv' := [(1, false, .int (nI d)), (0, false, va_rf (some (B 0)))]) dX12_target_4 rfl (by decide) rfl ?_
  refine sp_aload_n X (pc := 5) (r := some (B 0)) dX12_target_5 rfl rfl ?_
  refine sp_iconst X (pc := 6) (v := 0) dX12_target_6 (by decide) ?_
  refine sp_putI X (pc := 7) (c := 13) (i := 2) (q := 834) (a := (B 0)) rfl hVm.r.o (by decide) rfl rfl (Or.inl rfl) ⟨rfl, rfl⟩ fl_Mo_122 dX12_target_7 ?_
  obtain ⟨m7, hm7⟩ : ∃ xm, xm = (m.pI 834 (B 0) 0) := ⟨_, rfl⟩
  rw [← hm7]
  have hVm7 : sp_V B m0 m7 D R l0 l1 0 n b p t e L ws vq vm vl vs vA vE := by
    rw [hm7]
    exact hVm.pd 0 (by omega)
  have r7 : sp_rk B [] m m7 := by
    rw [hm7]
    exact sp_rk.refl B [] m
  have rk7 : sp_rk B [22, 23] m m7 := by
    rw [hm7]
    exact sp_rk.refl B _ m
  have e22 : m7.aI (B 22) = m.aI (B 22) := by
    rw [hm7]
    rfl
  have e23 : m7.aI (B 23) = m.aI (B 23) := by
    rw [hm7]
    rfl
  clear hm7
  refine sp_iload_n X (pc := 10) (x := (nI d)) dX12_target_10 rfl rfl ?_
  refine sp_iconst X (pc := 11) (v := 1) dX12_target_11 (by decide) ?_
  refine sp_icmp_lt X (pc := 12) (tgt := 21) dX12_target_12 (by decide) (fun hb12 => ?_) (fun hb12 => ?_)
  · have h1 : d < 1 := (nI_ltI (b := 1) (by omega) (by omega)).mp hb12
    refine sp_iconst X (pc := 21) (v := (-1)) dX12_target_21 (by decide) ?_
    refine sp_ireturn X (pc := 22) dX12_target_22 rfl ⟨_, rfl, ?_⟩
    first | exact Or.inr (Or.inl ⟨Or.inl h1, rfl, hVm7, r7⟩) | exact Or.inr (Or.inl ⟨Or.inr h2, rfl, hVm7, r7⟩)
  · have h1 : 1 ≤ d := Nat.not_lt.mp (fun q => hb12 (nI_lt (b := 1) q (by decide)))
    refine sp_iload_n X (pc := 15) (x := (nI d)) dX12_target_15 rfl rfl ?_
    refine sp_bipush X (pc := 16) (v := 40) dX12_target_16 (by decide) ?_
    refine sp_icmp_le X (pc := 18) (tgt := 23) dX12_target_18 (by decide) (fun hb18 => ?_) (fun hb18 => ?_)
    · have h2 : d ≤ 40 := sp_nge (b := d) (a := 40) hb18 (by omega) (by omega)
      refine sp_aload_n X (pc := 23) (r := some (B 0)) dX12_target_23 rfl rfl ?_
      refine sp_getfield X (pc := 24) (c := 13) (i := 21) (t := 0) (a := (B 0)) (v := .int (nI t)) rfl hVm7.r.o (by decide) rfl (congrArg Value.int hVm7.ct) fl_Mo_152 dX12_target_24 ?_
      refine sp_bipush X (pc := 27) (v := 40) dX12_target_27 (by decide) ?_
      refine sp_icmp_ne X (pc := 29) (tgt := 35) dX12_target_29 (by decide) (fun hb29 => ?_) (fun hb29 => ?_)
      · have h3 : t < 40 := by
          have : t ≠ 40 := fun z => hb29 (by rw [z]; rfl)
          omega
        refine sp_iconst X (pc := 35) (v := 0) dX12_target_35 (by decide) ?_
        refine sp_istore_n X (pc := 36) (lv' := [(2, false, .int 0), (1, false, .int (nI d)), (0, false, va_rf (some (B 0)))]) dX12_target_36 rfl (by decide) rfl ?_
        have loop37 : ∀ (dz : Nat) (k : Nat) (m1 : sp_M), sp_V B m0 m1 D R l0 l1 0 n b p t e L ws vq vm vl vs vA vE → k ≤ 161 → sp_rk B [22, 23] m m1 → (∀ i, i < k → m1.aI (B 23) (40 * t + i) = D i) → (∀ q, q < 40 * t → m1.aI (B 23) q = m.aI (B 23) q) → m1.aI (B 22) = m.aI (B 22) → d - k = dz → w 0 0 m1 37 [(0, false, va_rf (some (B 0))), (1, false, .int (nI d)), (2, false, .int (nI k))] [] := by
          intro dz
          induction dz using Nat.strongRecOn with
          | ind dz ih =>
            intro k m1 hVm1 hk0 rk1 b1 o1 t1 hdz
            refine sp_iload_n X (pc := 37) (x := nI k) dX12_target_37 rfl rfl ?_
            refine sp_iload_n X (pc := 38) (x := nI d) dX12_target_38 rfl rfl ?_
            refine sp_icmp_ge X (pc := 39) (tgt := 68) dX12_target_39 (by decide) (fun hb39 => ?_) (fun hb39 => ?_)
            · have hk9 : d ≤ k := sp_nge hb39 (by omega) (by omega)
              refine sp_aload_n X (pc := 68) (r := some (B 0)) dX12_target_68 rfl rfl ?_
              refine sp_getfield X (pc := 69) (c := 13) (i := 22) (t := 2) (a := (B 0)) (v := va_rf (some (B 22))) rfl hVm1.r.o (by decide) rfl (congrArg va_rf hVm1.f22) fl_Mo_57 dX12_target_69 ?_
              refine sp_aload_n X (pc := 72) (r := some (B 0)) dX12_target_72 rfl rfl ?_
              refine sp_getfield X (pc := 73) (c := 13) (i := 21) (t := 0) (a := (B 0)) (v := .int (nI t)) rfl hVm1.r.o (by decide) rfl (congrArg Value.int hVm1.ct) fl_Mo_152 dX12_target_73 ?_
              refine sp_iload_n X (pc := 76) (x := nI d) dX12_target_76 rfl rfl ?_
              refine sp_iastore X (pc := 77) (a := (B 22)) rfl hVm1.y22 (sp_in t hVm1.l22 (by omega) (by decide))  dX12_target_77 ?_
              rw [show (nI t).toNatClampNeg = t from (nI_clamp (n := t) (by omega))]
              obtain ⟨m77, hm77⟩ : ∃ xm, xm = (m1.sI (B 22) t (nI d)) := ⟨_, rfl⟩
              rw [← hm77]
              have hVm77 : sp_V B m0 m77 D R l0 l1 0 n b p t e L ws vq vm vl vs vA vE := by
                rw [hm77]
                exact hVm1.sI 22 t _ (by decide) (by decide) (Nat.le_refl _)
              have k22 : m77.aI (B 22) t = nI d := by
                rw [hm77]
                rw [sp_sI_aI, if_pos ⟨rfl, rfl⟩]
              have o22 : ∀ q, q ≠ t → m77.aI (B 22) q = m.aI (B 22) q := by
                rw [hm77]
                intro q hq
                rw [sp_sI_aI, if_neg (fun z => hq z.2), t1]
              have rk77 : sp_rk B [22, 23] m m77 := by
                rw [hm77]
                exact rk1.sI hVm1.r 22 _ _ (by decide) (by decide)
              have b77 : m77.aI (B 23) = m1.aI (B 23) := by
                rw [hm77]
                funext q
                rw [sp_sI_aI, if_neg (fun z => hVm1.ne 23 22 (by decide) (by decide) (by decide) z.1)]
              clear hm77
              refine sp_aload_n X (pc := 78) (r := some (B 0)) dX12_target_78 rfl rfl ?_
              refine sp_dup X (pc := 79) dX12_target_79 (sp_cat_rf _) ?_
              refine sp_getfield X (pc := 80) (c := 13) (i := 21) (t := 0) (a := (B 0)) (v := .int (nI t)) rfl hVm77.r.o (by decide) rfl (congrArg Value.int hVm77.ct) fl_Mo_152 dX12_target_80 ?_
              refine sp_iconst X (pc := 83) (v := 1) dX12_target_83 (by decide) ?_
              refine sp_iadd X (pc := 84) dX12_target_84 ?_
              rw [show ((nI t) + 1) = (nI (t + 1)) from (nI_add t 1)]
              refine sp_putI X (pc := 85) (c := 13) (i := 21) (q := 853) (a := (B 0)) rfl hVm77.r.o (by decide) rfl rfl (Or.inl rfl) ⟨rfl, rfl⟩ fl_Mo_152 dX12_target_85 ?_
              obtain ⟨m85, hm85⟩ : ∃ xm, xm = (m77.pI 853 (B 0) (nI (t + 1))) := ⟨_, rfl⟩
              rw [← hm85]
              have hVm85 : sp_V B m0 m85 D R l0 l1 0 n b p (t + 1) e L ws vq vm vl vs vA vE := by
                rw [hm85]
                exact hVm77.pt (t + 1) (by omega) (by omega) (fun j q1 q2 => ⟨d, by
  obtain rfl : j = t := by omega
  exact k22, by omega⟩)
              have k85 : m85.aI = m77.aI := by
                rw [hm85]
                rfl
              clear hm85
              refine sp_aload_n X (pc := 88) (r := some (B 0)) dX12_target_88 rfl rfl ?_
              refine sp_getfield X (pc := 89) (c := 13) (i := 21) (t := 0) (a := (B 0)) (v := .int (nI (t + 1))) rfl hVm85.r.o (by decide) rfl (congrArg Value.int hVm85.ct) fl_Mo_152 dX12_target_89 ?_
              refine sp_iconst X (pc := 92) (v := 1) dX12_target_92 (by decide) ?_
              refine sp_isub X (pc := 93) dX12_target_93 ?_
              rw [show ((nI (t + 1)) - 1) = (nI t) from nI_pred t]
              refine sp_ireturn X (pc := 94) dX12_target_94 rfl ⟨_, rfl, ?_⟩
              refine Or.inl ⟨h1, h2, h3, rfl, hVm85, fun k hk hl => by rw [k85]; exact rk77 k hk hl, fun j hj => ?_⟩
              rw [k85, b77]
              dsimp only
              by_cases q : j = t
              · subst q
                rw [if_pos rfl, sp_seg_len]
                exact ⟨k22, fun i hi => by rw [b1 i (by omega), sp_seg_get _ _ _ hi, Nat.zero_add]⟩
              · rw [if_neg q, o22 j q]
                have q2 := hTl j (by omega)
                exact ⟨(hT j (by omega)).1, fun i hi => by rw [o1 _ (by omega)]; exact (hT j (by omega)).2 i hi⟩
            · have hk : k < d := sp_nlt hb39 (by omega)
              refine sp_aload_n X (pc := 42) (r := some (B 0)) dX12_target_42 rfl rfl ?_
              refine sp_getfield X (pc := 43) (c := 13) (i := 23) (t := 2) (a := (B 0)) (v := va_rf (some (B 23))) rfl hVm1.r.o (by decide) rfl (congrArg va_rf hVm1.f23) fl_Mo_60 dX12_target_43 ?_
              refine sp_bipush X (pc := 46) (v := 40) dX12_target_46 (by decide) ?_
              refine sp_aload_n X (pc := 48) (r := some (B 0)) dX12_target_48 rfl rfl ?_
              refine sp_getfield X (pc := 49) (c := 13) (i := 21) (t := 0) (a := (B 0)) (v := .int (nI t)) rfl hVm1.r.o (by decide) rfl (congrArg Value.int hVm1.ct) fl_Mo_152 dX12_target_49 ?_
              refine sp_imul X (pc := 52) dX12_target_52 ?_
              rw [show (40 * (nI t)) = (nI (40 * t)) from (sp_mul 40 t)]
              refine sp_iload_n X (pc := 53) (x := nI k) dX12_target_53 rfl rfl ?_
              refine sp_iadd X (pc := 54) dX12_target_54 ?_
              rw [show ((nI (40 * t)) + (nI k)) = (nI ((40 * t) + k)) from (nI_add (40 * t) k)]
              refine sp_aload_n X (pc := 55) (r := some (B 0)) dX12_target_55 rfl rfl ?_
              refine sp_getfield X (pc := 56) (c := 13) (i := 1) (t := 2) (a := (B 0)) (v := va_rf (some (B 1))) rfl hVm1.r.o (by decide) rfl (congrArg va_rf hVm1.f1) fl_Mo_7 dX12_target_56 ?_
              refine sp_iload_n X (pc := 59) (x := nI k) dX12_target_59 rfl rfl ?_
              refine sp_iaload X (pc := 60) (a := (B 1)) rfl (Or.inl hVm1.y1) (sp_in k hVm1.l1 (by omega) (by decide)) dX12_target_60 ?_
              rw [show (m1.aI (B 1) (nI k).toNatClampNeg) = (m1.aI (B 1) k) from (congrArg _ (nI_clamp (n := k) (by omega)))]
              rw [show (m1.aI (B 1) k) = (D k) from (congrFun hVm1.dr _)]
              refine sp_iastore X (pc := 61) (a := (B 23)) rfl hVm1.y23 (sp_in ((40 * t) + k) hVm1.l23 (by omega) (by decide))  dX12_target_61 ?_
              rw [show (nI ((40 * t) + k)).toNatClampNeg = ((40 * t) + k) from (nI_clamp (n := ((40 * t) + k)) (by omega))]
              obtain ⟨m61, hm61⟩ : ∃ xm, xm = (m1.sI (B 23) ((40 * t) + k) (D k)) := ⟨_, rfl⟩
              rw [← hm61]
              have hVm61 : sp_V B m0 m61 D R l0 l1 0 n b p t e L ws vq vm vl vs vA vE := by
                rw [hm61]
                exact hVm1.sI 23 ((40 * t) + k) _ (by decide) (by decide) (Nat.zero_le _)
              have rk61 : sp_rk B [22, 23] m m61 := by
                rw [hm61]
                exact rk1.sI hVm1.r 23 _ _ (by decide) (by decide)
              have b61 : ∀ i, i < k + 1 → m61.aI (B 23) (40 * t + i) = D i := by
                rw [hm61]
                intro i hi
                rw [sp_sI_aI]
                by_cases q : i = k
                · subst q; rw [if_pos ⟨rfl, rfl⟩]
                · rw [if_neg (by omega)]; exact b1 i (by omega)
              have o61 : ∀ q, q < 40 * t → m61.aI (B 23) q = m.aI (B 23) q := by
                rw [hm61]
                intro q hq
                rw [sp_sI_aI, if_neg (by omega)]; exact o1 q hq
              have t61 : m61.aI (B 22) = m.aI (B 22) := by
                rw [hm61]
                funext q
                rw [sp_sI_aI, if_neg (fun z => hVm1.ne 22 23 (by decide) (by decide) (by decide) z.1)]; exact congrFun t1 q
              clear hm61
              refine sp_iinc X (pc := 62) (v := (nI (k + 1))) (lv' := [(2, false, .int (nI (k + 1))), (0, false, va_rf (some (B 0))), (1, false, .int (nI d))]) dX12_target_62 rfl ((sp_i1 k)) (by decide) rfl ?_
              refine sp_goto X (pc := 65) (tgt := 37) dX12_target_65 (by decide) ?_
              refine sp_pick X [1, 2, 0] (lv' := [(0, false, va_rf (some (B 0))), (1, false, .int (nI d)), (2, false, .int (nI (k + 1)))]) rfl ?_
              exact ih _ (by omega) (k + 1) _ hVm61 (by omega) rk61 b61 o61 t61 rfl
        refine sp_pick X [2, 1, 0] (lv' := [(0, false, va_rf (some (B 0))), (1, false, .int (nI d)), (2, false, .int 0)]) rfl ?_
        exact loop37 _ 0 _ hVm7 (by omega) rk7 (fun i z => absurd z (Nat.not_lt_zero _)) (fun q _ => congrFun e23 q) e22 rfl
      · have h3 : t = 40 := sp_neq (b := 40) hb29 (by omega) (by omega)
        refine sp_bipush X (pc := 32) (v := (-6)) dX12_target_32 (by decide) ?_
        refine sp_ireturn X (pc := 34) dX12_target_34 rfl ⟨_, rfl, ?_⟩
        exact Or.inr (Or.inr ⟨h1, h2, by omega, rfl, hVm7, r7⟩)
    · have h2 : 40 < d := sp_nlt (b := d) (a := 40) hb18 (by omega)
      refine sp_iconst X (pc := 21) (v := (-1)) dX12_target_21 (by decide) ?_
      refine sp_ireturn X (pc := 22) dX12_target_22 rfl ⟨_, rfl, ?_⟩
      first | exact Or.inr (Or.inl ⟨Or.inl h1, rfl, hVm7, r7⟩) | exact Or.inr (Or.inl ⟨Or.inr h2, rfl, hVm7, r7⟩)

theorem sp_mN.add {m m' : sp_M} {B : Nat → Nat} {n L f h9 w : Nat} {T : pu_N} {kd : Int32} {l : List Nat} (hMN : sp_mN m B n L T) (hL : L ≤ n) (hw : w ≤ 16) (hT : ∀ j, j < n → (T.w j).length ≤ 16) (hr : sp_rk B [4, 8, 9, 10, 11, 12] m m') (u4 : ∀ j, m'.aI (B 4) j = if j = n then kd else m.aI (B 4) j) (u8 : ∀ j, m'.aI (B 8) j = if j = n then nI f else m.aI (B 8) j) (u10 : ∀ j, m'.aI (B 10) j = if j = n then nI w else m.aI (B 10) j) (u9 : ∀ j, m'.aI (B 9) j = if j = n then -1 else m.aI (B 9) j) (n1 : ∀ i, i < w → m'.aI (B 11) (16 * n + i) = m.aI (B 34) i) (n2 : ∀ q, q < 16 * n → m'.aI (B 11) q = m.aI (B 11) q) : sp_mN m' B (n + 1) L (pu_add T n kd 0 f h9 (sp_wu m B w)) := by
  obtain ⟨h1, h2, h3⟩ := hMN
  have N : (pu_add T n kd 0 f h9 (sp_wu m B w)).k n = kd ∧ (pu_add T n kd 0 f h9 (sp_wu m B w)).s n = 0 ∧ (pu_add T n kd 0 f h9 (sp_wu m B w)).d n = 0 ∧ (pu_add T n kd 0 f h9 (sp_wu m B w)).g n = 0 ∧ (pu_add T n kd 0 f h9 (sp_wu m B w)).o n = f ∧ (pu_add T n kd 0 f h9 (sp_wu m B w)).w n = sp_wu m B w := ⟨if_pos rfl, if_pos rfl, if_pos rfl, if_pos rfl, if_pos rfl, if_pos rfl⟩
  have E : ∀ j, j < n → (pu_add T n kd 0 f h9 (sp_wu m B w)).k j = T.k j ∧ (pu_add T n kd 0 f h9 (sp_wu m B w)).s j = T.s j ∧ (pu_add T n kd 0 f h9 (sp_wu m B w)).d j = T.d j ∧ (pu_add T n kd 0 f h9 (sp_wu m B w)).g j = T.g j ∧ (pu_add T n kd 0 f h9 (sp_wu m B w)).o j = T.o j ∧ (pu_add T n kd 0 f h9 (sp_wu m B w)).h j = T.h j ∧ (pu_add T n kd 0 f h9 (sp_wu m B w)).w j = T.w j := fun j hj => ⟨if_neg (by omega), if_neg (by omega), if_neg (by omega), if_neg (by omega), if_neg (by omega), if_neg (by omega), if_neg (by omega)⟩
  refine ⟨fun j hj => ?_, fun j hj => ?_, fun j hj hk => ?_⟩
  · rw [hr 5 (by decide) (by decide), hr 6 (by decide) (by decide), hr 7 (by decide) (by decide), u4 j, u8 j, u10 j]
    by_cases q : j = n
    · subst q
      rw [N.1, N.2.1, N.2.2.1, N.2.2.2.1, N.2.2.2.2.1, N.2.2.2.2.2, if_pos rfl, if_pos rfl, if_pos rfl, sp_wu_len]
      have z := h2 j (Nat.le_refl _)
      exact ⟨rfl, z.1, z.2.1, z.2.2, rfl, rfl, fun i hi => by rw [n1 i hi, sp_wu_get m B hi]⟩
    · have e := E j (by omega)
      rw [e.1, e.2.1, e.2.2.1, e.2.2.2.1, e.2.2.2.2.1, e.2.2.2.2.2.2, if_neg q, if_neg q, if_neg q]
      obtain ⟨a1, a2, a3, a4, a5, a6, a7⟩ := h1 j (by omega)
      exact ⟨a1, a2, a3, a4, a5, a6, fun i hi => by rw [n2 _ (by have := hT j (by omega); omega)]; exact a7 i hi⟩
  · rw [hr 5 (by decide) (by decide), hr 6 (by decide) (by decide), hr 7 (by decide) (by decide)]
    exact h2 j (by omega)
  · have e := E j (by omega)
    rw [e.1] at hk
    rw [u9 j, if_neg (by omega), e.2.2.2.2.2.1]
    exact h3 j hj hk
set_option maxHeartbeats 1000000 in
set_option maxRecDepth 20000 in
theorem c_Mo_add (l : Launch) (G : sp_G) (m : sp_M) {B : Nat → Nat} {m0 : sp_M} {D : Nat → Int32} {R : Int32} {l0 l1 : Int64} {d n b p t e L ws : Nat} {vq vm vl : Int32} {vs : Int64} {vA vE : Nat → Int64} (hVm : sp_V B m0 m D R l0 l1 d n b p t e L ws vq vm vl vs vA vE) {T : pu_N} {kd : Int32} {f : Nat} (hMN : sp_mN m B n L T) (hT16 : ∀ j, j < n → (T.w j).length ≤ 16) (hn : n < 200) (hf : f < n ∨ f = 0 ∧ n = 0) (hw16 : ws ≤ 16) : sp_C l G M_Mo_add 0 0 [.ref (B 0), .int kd, .int (nI f)] m (sp_oI fun v m' => v = nI n ∧ sp_V B m0 m' D R l0 l1 d (n + 1) b p t e L ws vq vm vl vs vA vE ∧ m'.aI (B 4) n = kd ∧ sp_rk B [4, 8, 9, 10, 11, 12] m m' ∧ (∀ h9, sp_mN m' B (n + 1) L (pu_add T n kd 0 f h9 (sp_wu m B ws))) ∧ ∀ j, m'.aI (B 12) j = if j = n then -1 else m.aI (B 12) j) := by
  refine sp_enter (lv0 := [(0, false, va_rf (some (B 0))), (1, false, .int kd), (2, false, .int (nI f))]) "SafePathsModel" false rfl (by decide) (fun h => by cases h) (Nat.le_of_ble_eq_true rfl) rfl ?_
  intro w X
  have bd := hVm.hd
  have bn := hVm.hn
  have bb := hVm.hb
  have bp := hVm.hp
  have bt := hVm.ht
  have be := hVm.he
  have bw := hVm.hw
  have bL := hVm.hL
  have rkm : sp_rk B [4, 8, 9, 10, 11, 12] m m := sp_rk.refl _ _ _
  refine sp_aload_n X (pc := 0) (r := some (B 0)) dX12_add_0 rfl rfl ?_
  refine sp_getfield X (pc := 1) (c := 13) (i := 3) (t := 0) (a := (B 0)) (v := .int (nI n)) rfl hVm.r.o (by decide) rfl (congrArg Value.int hVm.cn) fl_Mo_115 dX12_add_1 ?_
  refine sp_istore_n X (pc := 4) (lv' := [(3, false, .int (nI n)), (0, false, va_rf (some (B 0))), (1, false, .int kd), (2, false, .int (nI f))]) dX12_add_4 rfl (by decide) rfl ?_
  refine sp_aload_n X (pc := 5) (r := some (B 0)) dX12_add_5 rfl rfl ?_
  refine sp_getfield X (pc := 6) (c := 13) (i := 4) (t := 2) (a := (B 0)) (v := va_rf (some (B 4))) rfl hVm.r.o (by decide) rfl (congrArg va_rf hVm.f4) fl_Mo_13 dX12_add_6 ?_
  refine sp_iload_n X (pc := 9) (x := (nI n)) dX12_add_9 rfl rfl ?_
  refine sp_iload_n X (pc := 10) (x := kd) dX12_add_10 rfl rfl ?_
  refine sp_iastore X (pc := 11) (a := (B 4)) rfl hVm.y4 (sp_in n hVm.l4 (by omega) (by decide))  dX12_add_11 ?_
  rw [show (nI n).toNatClampNeg = n from (nI_clamp (n := n) (by omega))]
  obtain ⟨m11, hm11⟩ : ∃ xm, xm = (m.sI (B 4) n kd) := ⟨_, rfl⟩
  rw [← hm11]
  have hVm11 : sp_V B m0 m11 D R l0 l1 d n b p t e L ws vq vm vl vs vA vE := by
    rw [hm11]
    exact hVm.sI 4 n _ (by decide) (by decide) bL
  have rkm11 : sp_rk B [4, 8, 9, 10, 11, 12] m m11 := by
    rw [hm11]
    exact rkm.sI hVm.r 4 _ _ (by decide) (by decide)
  have u4_11 : ∀ j, m11.aI (B 4) j = if j = n then kd else m.aI (B 4) j := by
    rw [hm11]
    intro j
    rw [sp_sI_aI]
    by_cases q : j = n
    · rw [if_pos ⟨rfl, q⟩, if_pos q]
    · rw [if_neg (fun z => q z.2), if_neg q]
  have s8_11 : m11.aI (B 8) = m.aI (B 8) := by
    rw [hm11]
    funext q
    rw [sp_sI_aI, if_neg (fun z => hVm.ne 8 4 (by decide) (by decide) (by decide) z.1)]
  have s9_11 : m11.aI (B 9) = m.aI (B 9) := by
    rw [hm11]
    funext q
    rw [sp_sI_aI, if_neg (fun z => hVm.ne 9 4 (by decide) (by decide) (by decide) z.1)]
  have s10_11 : m11.aI (B 10) = m.aI (B 10) := by
    rw [hm11]
    funext q
    rw [sp_sI_aI, if_neg (fun z => hVm.ne 10 4 (by decide) (by decide) (by decide) z.1)]
  have s11_11 : m11.aI (B 11) = m.aI (B 11) := by
    rw [hm11]
    funext q
    rw [sp_sI_aI, if_neg (fun z => hVm.ne 11 4 (by decide) (by decide) (by decide) z.1)]
  have s12_11 : m11.aI (B 12) = m.aI (B 12) := by
    rw [hm11]
    funext q
    rw [sp_sI_aI, if_neg (fun z => hVm.ne 12 4 (by decide) (by decide) (by decide) z.1)]
  clear hm11
  refine sp_aload_n X (pc := 12) (r := some (B 0)) dX12_add_12 rfl rfl ?_
  refine sp_getfield X (pc := 13) (c := 13) (i := 8) (t := 2) (a := (B 0)) (v := va_rf (some (B 8))) rfl hVm11.r.o (by decide) rfl (congrArg va_rf hVm11.f8) fl_Mo_26 dX12_add_13 ?_
  refine sp_iload_n X (pc := 16) (x := (nI n)) dX12_add_16 rfl rfl ?_
  refine sp_iload_n X (pc := 17) (x := nI f) dX12_add_17 rfl rfl ?_
  refine sp_iastore X (pc := 18) (a := (B 8)) rfl hVm11.y8 (sp_in n hVm11.l8 (by omega) (by decide))  dX12_add_18 ?_
  rw [show (nI n).toNatClampNeg = n from (nI_clamp (n := n) (by omega))]
  obtain ⟨m18, hm18⟩ : ∃ xm, xm = (m11.sI (B 8) n (nI f)) := ⟨_, rfl⟩
  rw [← hm18]
  have hVm18 : sp_V B m0 m18 D R l0 l1 d n b p t e L ws vq vm vl vs vA vE := by
    rw [hm18]
    exact hVm11.sI 8 n _ (by decide) (by decide) (Nat.le_refl _)
  have rkm18 : sp_rk B [4, 8, 9, 10, 11, 12] m m18 := by
    rw [hm18]
    exact rkm11.sI hVm11.r 8 _ _ (by decide) (by decide)
  have u4_18 : ∀ j, m18.aI (B 4) j = if j = n then kd else m.aI (B 4) j := by
    rw [hm18]
    intro j
    rw [sp_sI_aI, if_neg (fun z => hVm11.ne 4 8 (by decide) (by decide) (by decide) z.1)]
    exact u4_11 j
  have u8_18 : ∀ j, m18.aI (B 8) j = if j = n then (nI f) else m.aI (B 8) j := by
    rw [hm18]
    intro j
    rw [sp_sI_aI]
    by_cases q : j = n
    · rw [if_pos ⟨rfl, q⟩, if_pos q]
    · rw [if_neg (fun z => q z.2), if_neg q, s8_11]
  have s9_18 : m18.aI (B 9) = m.aI (B 9) := by
    rw [hm18]
    funext q
    rw [sp_sI_aI, if_neg (fun z => hVm11.ne 9 8 (by decide) (by decide) (by decide) z.1), s9_11]
  have s10_18 : m18.aI (B 10) = m.aI (B 10) := by
    rw [hm18]
    funext q
    rw [sp_sI_aI, if_neg (fun z => hVm11.ne 10 8 (by decide) (by decide) (by decide) z.1), s10_11]
  have s11_18 : m18.aI (B 11) = m.aI (B 11) := by
    rw [hm18]
    funext q
    rw [sp_sI_aI, if_neg (fun z => hVm11.ne 11 8 (by decide) (by decide) (by decide) z.1), s11_11]
  have s12_18 : m18.aI (B 12) = m.aI (B 12) := by
    rw [hm18]
    funext q
    rw [sp_sI_aI, if_neg (fun z => hVm11.ne 12 8 (by decide) (by decide) (by decide) z.1), s12_11]
  clear hm18
  refine sp_aload_n X (pc := 19) (r := some (B 0)) dX12_add_19 rfl rfl ?_
  refine sp_getfield X (pc := 20) (c := 13) (i := 10) (t := 2) (a := (B 0)) (v := va_rf (some (B 10))) rfl hVm18.r.o (by decide) rfl (congrArg va_rf hVm18.f10) fl_Mo_32 dX12_add_20 ?_
  refine sp_iload_n X (pc := 23) (x := (nI n)) dX12_add_23 rfl rfl ?_
  refine sp_aload_n X (pc := 24) (r := some (B 0)) dX12_add_24 rfl rfl ?_
  refine sp_getfield X (pc := 25) (c := 13) (i := 35) (t := 0) (a := (B 0)) (v := .int (nI ws)) rfl hVm18.r.o (by decide) rfl (congrArg Value.int hVm18.cw) fl_Mo_107 dX12_add_25 ?_
  refine sp_iastore X (pc := 28) (a := (B 10)) rfl hVm18.y10 (sp_in n hVm18.l10 (by omega) (by decide))  dX12_add_28 ?_
  rw [show (nI n).toNatClampNeg = n from (nI_clamp (n := n) (by omega))]
  obtain ⟨m28, hm28⟩ : ∃ xm, xm = (m18.sI (B 10) n (nI ws)) := ⟨_, rfl⟩
  rw [← hm28]
  have hVm28 : sp_V B m0 m28 D R l0 l1 d n b p t e L ws vq vm vl vs vA vE := by
    rw [hm28]
    exact hVm18.sI 10 n _ (by decide) (by decide) (Nat.le_refl _)
  have rkm28 : sp_rk B [4, 8, 9, 10, 11, 12] m m28 := by
    rw [hm28]
    exact rkm18.sI hVm18.r 10 _ _ (by decide) (by decide)
  have u4_28 : ∀ j, m28.aI (B 4) j = if j = n then kd else m.aI (B 4) j := by
    rw [hm28]
    intro j
    rw [sp_sI_aI, if_neg (fun z => hVm18.ne 4 10 (by decide) (by decide) (by decide) z.1)]
    exact u4_18 j
  have u8_28 : ∀ j, m28.aI (B 8) j = if j = n then (nI f) else m.aI (B 8) j := by
    rw [hm28]
    intro j
    rw [sp_sI_aI, if_neg (fun z => hVm18.ne 8 10 (by decide) (by decide) (by decide) z.1)]
    exact u8_18 j
  have s9_28 : m28.aI (B 9) = m.aI (B 9) := by
    rw [hm28]
    funext q
    rw [sp_sI_aI, if_neg (fun z => hVm18.ne 9 10 (by decide) (by decide) (by decide) z.1), s9_18]
  have u10_28 : ∀ j, m28.aI (B 10) j = if j = n then (nI ws) else m.aI (B 10) j := by
    rw [hm28]
    intro j
    rw [sp_sI_aI]
    by_cases q : j = n
    · rw [if_pos ⟨rfl, q⟩, if_pos q]
    · rw [if_neg (fun z => q z.2), if_neg q, s10_18]
  have s11_28 : m28.aI (B 11) = m.aI (B 11) := by
    rw [hm28]
    funext q
    rw [sp_sI_aI, if_neg (fun z => hVm18.ne 11 10 (by decide) (by decide) (by decide) z.1), s11_18]
  have s12_28 : m28.aI (B 12) = m.aI (B 12) := by
    rw [hm28]
    funext q
    rw [sp_sI_aI, if_neg (fun z => hVm18.ne 12 10 (by decide) (by decide) (by decide) z.1), s12_18]
  clear hm28
  refine sp_iconst X (pc := 29) (v := 0) dX12_add_29 (by decide) ?_
  refine sp_istore X (pc := 30) (lv' := [(4, false, .int 0), (3, false, .int (nI n)), (0, false, va_rf (some (B 0))), (1, false, .int kd), (2, false, .int (nI f))]) dX12_add_30  (by decide) rfl ?_
  have loop32 : ∀ (dz : Nat) (k : Nat) (m1 : sp_M), sp_rk B [4, 8, 9, 10, 11, 12] m m1 → k ≤ ws → sp_V B m0 m1 D R l0 l1 d n b p t e L ws vq vm vl vs vA vE → (∀ j, m1.aI (B 4) j = if j = n then kd else m.aI (B 4) j) → (∀ j, m1.aI (B 8) j = if j = n then (nI f) else m.aI (B 8) j) → (∀ j, m1.aI (B 10) j = if j = n then (nI ws) else m.aI (B 10) j) → m1.aI (B 9) = m.aI (B 9) → m1.aI (B 12) = m.aI (B 12) → (∀ i, i < k → m1.aI (B 11) (16 * n + i) = m.aI (B 34) i) → (∀ q, q < 16 * n → m1.aI (B 11) q = m.aI (B 11) q) → ws - k = dz → w 0 0 m1 32 [(0, false, va_rf (some (B 0))), (3, false, .int (nI n)), (4, false, .int (nI k))] [] := by
    intro dz
    induction dz using Nat.strongRecOn with
    | ind dz ih =>
      intro k m1 rkm1 hk0 hVm1 e4 e8 e10 e9 e12 en eo hdz
      refine sp_iload X (pc := 32) (x := nI k) dX12_add_32 rfl ?_
      refine sp_aload_n X (pc := 34) (r := some (B 0)) dX12_add_34 rfl rfl ?_
      refine sp_getfield X (pc := 35) (c := 13) (i := 35) (t := 0) (a := (B 0)) (v := .int (nI ws)) rfl hVm1.r.o (by decide) rfl (congrArg Value.int hVm1.cw) fl_Mo_107 dX12_add_35 ?_
      refine sp_icmp_ge X (pc := 38) (tgt := 66) dX12_add_38 (by decide) (fun hb38 => ?_) (fun hb38 => ?_)
      · have hk : ws ≤ k := sp_nge hb38 (by omega) (by omega)
        refine sp_aload_n X (pc := 66) (r := some (B 0)) dX12_add_66 rfl rfl ?_
        refine sp_getfield X (pc := 67) (c := 13) (i := 12) (t := 2) (a := (B 0)) (v := va_rf (some (B 12))) rfl hVm1.r.o (by decide) rfl (congrArg va_rf hVm1.f12) fl_Mo_38 dX12_add_67 ?_
        refine sp_iload_n X (pc := 70) (x := nI n) dX12_add_70 rfl rfl ?_
        refine sp_iconst X (pc := 71) (v := (-1)) dX12_add_71 (by decide) ?_
        refine sp_iastore X (pc := 72) (a := (B 12)) rfl hVm1.y12 (sp_in n hVm1.l12 (by omega) (by decide))  dX12_add_72 ?_
        rw [show (nI n).toNatClampNeg = n from (nI_clamp (n := n) (by omega))]
        obtain ⟨m72, hm72⟩ : ∃ xm, xm = (m1.sI (B 12) n (-1)) := ⟨_, rfl⟩
        rw [← hm72]
        have hVm72 : sp_V B m0 m72 D R l0 l1 d n b p t e L ws vq vm vl vs vA vE := by
          rw [hm72]
          exact hVm1.sI 12 n _ (by decide) (by decide) (Nat.zero_le _)
        have rkm72 : sp_rk B [4, 8, 9, 10, 11, 12] m m72 := by
          rw [hm72]
          exact rkm1.sI hVm1.r 12 _ _ (by decide) (by decide)
        have u4_72 : ∀ j, m72.aI (B 4) j = if j = n then kd else m.aI (B 4) j := by
          rw [hm72]
          intro j
          rw [sp_sI_aI, if_neg (fun z => hVm1.ne 4 12 (by decide) (by decide) (by decide) z.1)]
          exact e4 j
        have u8_72 : ∀ j, m72.aI (B 8) j = if j = n then (nI f) else m.aI (B 8) j := by
          rw [hm72]
          intro j
          rw [sp_sI_aI, if_neg (fun z => hVm1.ne 8 12 (by decide) (by decide) (by decide) z.1)]
          exact e8 j
        have s9_72 : m72.aI (B 9) = m.aI (B 9) := by
          rw [hm72]
          funext q
          rw [sp_sI_aI, if_neg (fun z => hVm1.ne 9 12 (by decide) (by decide) (by decide) z.1), e9]
        have u10_72 : ∀ j, m72.aI (B 10) j = if j = n then (nI ws) else m.aI (B 10) j := by
          rw [hm72]
          intro j
          rw [sp_sI_aI, if_neg (fun z => hVm1.ne 10 12 (by decide) (by decide) (by decide) z.1)]
          exact e10 j
        have u12_72 : ∀ j, m72.aI (B 12) j = if j = n then (-1) else m.aI (B 12) j := by
          rw [hm72]
          intro j
          rw [sp_sI_aI]
          by_cases q : j = n
          · rw [if_pos ⟨rfl, q⟩, if_pos q]
          · rw [if_neg (fun z => q z.2), if_neg q, e12]
        have n72 : ∀ i, i < ws → m72.aI (B 11) (16 * n + i) = m.aI (B 34) i := by
          rw [hm72]
          intro i hi
          rw [sp_sI_aI, if_neg (fun z => hVm1.ne 11 12 (by decide) (by decide) (by decide) z.1)]
          exact en i (by omega)
        have o72 : ∀ q, q < 16 * n → m72.aI (B 11) q = m.aI (B 11) q := by
          rw [hm72]
          intro q hq
          rw [sp_sI_aI, if_neg (fun z => hVm1.ne 11 12 (by decide) (by decide) (by decide) z.1)]
          exact eo q hq
        clear hm72
        refine sp_aload_n X (pc := 73) (r := some (B 0)) dX12_add_73 rfl rfl ?_
        refine sp_getfield X (pc := 74) (c := 13) (i := 9) (t := 2) (a := (B 0)) (v := va_rf (some (B 9))) rfl hVm72.r.o (by decide) rfl (congrArg va_rf hVm72.f9) fl_Mo_29 dX12_add_74 ?_
        refine sp_iload_n X (pc := 77) (x := nI n) dX12_add_77 rfl rfl ?_
        refine sp_iconst X (pc := 78) (v := (-1)) dX12_add_78 (by decide) ?_
        refine sp_iastore X (pc := 79) (a := (B 9)) rfl hVm72.y9 (sp_in n hVm72.l9 (by omega) (by decide))  dX12_add_79 ?_
        rw [show (nI n).toNatClampNeg = n from (nI_clamp (n := n) (by omega))]
        obtain ⟨m79, hm79⟩ : ∃ xm, xm = (m72.sI (B 9) n (-1)) := ⟨_, rfl⟩
        rw [← hm79]
        have hVm79 : sp_V B m0 m79 D R l0 l1 d n b p t e L ws vq vm vl vs vA vE := by
          rw [hm79]
          exact hVm72.sI 9 n _ (by decide) (by decide) bL
        have rkm79 : sp_rk B [4, 8, 9, 10, 11, 12] m m79 := by
          rw [hm79]
          exact rkm72.sI hVm72.r 9 _ _ (by decide) (by decide)
        have u4_79 : ∀ j, m79.aI (B 4) j = if j = n then kd else m.aI (B 4) j := by
          rw [hm79]
          intro j
          rw [sp_sI_aI, if_neg (fun z => hVm72.ne 4 9 (by decide) (by decide) (by decide) z.1)]
          exact u4_72 j
        have u8_79 : ∀ j, m79.aI (B 8) j = if j = n then (nI f) else m.aI (B 8) j := by
          rw [hm79]
          intro j
          rw [sp_sI_aI, if_neg (fun z => hVm72.ne 8 9 (by decide) (by decide) (by decide) z.1)]
          exact u8_72 j
        have u9_79 : ∀ j, m79.aI (B 9) j = if j = n then (-1) else m.aI (B 9) j := by
          rw [hm79]
          intro j
          rw [sp_sI_aI]
          by_cases q : j = n
          · rw [if_pos ⟨rfl, q⟩, if_pos q]
          · rw [if_neg (fun z => q z.2), if_neg q, s9_72]
        have u10_79 : ∀ j, m79.aI (B 10) j = if j = n then (nI ws) else m.aI (B 10) j := by
          rw [hm79]
          intro j
          rw [sp_sI_aI, if_neg (fun z => hVm72.ne 10 9 (by decide) (by decide) (by decide) z.1)]
          exact u10_72 j
        have u12_79 : ∀ j, m79.aI (B 12) j = if j = n then (-1) else m.aI (B 12) j := by
          rw [hm79]
          intro j
          rw [sp_sI_aI, if_neg (fun z => hVm72.ne 12 9 (by decide) (by decide) (by decide) z.1)]
          exact u12_72 j
        have n79 : ∀ i, i < ws → m79.aI (B 11) (16 * n + i) = m.aI (B 34) i := by
          rw [hm79]
          intro i hi
          rw [sp_sI_aI, if_neg (fun z => hVm72.ne 11 9 (by decide) (by decide) (by decide) z.1)]
          exact n72 i hi
        have o79 : ∀ q, q < 16 * n → m79.aI (B 11) q = m.aI (B 11) q := by
          rw [hm79]
          intro q hq
          rw [sp_sI_aI, if_neg (fun z => hVm72.ne 11 9 (by decide) (by decide) (by decide) z.1)]
          exact o72 q hq
        clear hm79
        refine sp_aload_n X (pc := 80) (r := some (B 0)) dX12_add_80 rfl rfl ?_
        refine sp_dup X (pc := 81) dX12_add_81 (sp_cat_rf _) ?_
        refine sp_getfield X (pc := 82) (c := 13) (i := 3) (t := 0) (a := (B 0)) (v := .int (nI n)) rfl hVm79.r.o (by decide) rfl (congrArg Value.int hVm79.cn) fl_Mo_115 dX12_add_82 ?_
        refine sp_iconst X (pc := 85) (v := 1) dX12_add_85 (by decide) ?_
        refine sp_iadd X (pc := 86) dX12_add_86 ?_
        rw [show ((nI n) + 1) = (nI (n + 1)) from (nI_add n 1)]
        refine sp_putI X (pc := 87) (c := 13) (i := 3) (q := 835) (a := (B 0)) rfl hVm79.r.o (by decide) rfl rfl (Or.inl rfl) ⟨rfl, rfl⟩ fl_Mo_115 dX12_add_87 ?_
        obtain ⟨m87, hm87⟩ : ∃ xm, xm = (m79.pI 835 (B 0) (nI (n + 1))) := ⟨_, rfl⟩
        rw [← hm87]
        have hVm87 : sp_V B m0 m87 D R l0 l1 d (n + 1) b p t e L ws vq vm vl vs vA vE := by
          rw [hm87]
          exact hVm79.pn (n + 1) (by omega) (by omega) (fun j q1 q2 => ⟨f, by
  obtain rfl : j = n := by omega
  rw [u8_79, if_pos rfl], by omega⟩) (fun j q1 q2 => ⟨ws, by
  obtain rfl : j = n := by omega
  rw [u10_79, if_pos rfl], hw16⟩)
        have rkm87 : sp_rk B [4, 8, 9, 10, 11, 12] m m87 := by
          rw [hm87]
          exact rkm79
        have k87 : m87.aI = m79.aI := by
          rw [hm87]
          rfl
        clear hm87
        refine sp_iload_n X (pc := 90) (x := nI n) dX12_add_90 rfl rfl ?_
        refine sp_ireturn X (pc := 91) dX12_add_91 rfl ⟨_, rfl, ?_⟩
        refine ⟨rfl, hVm87, by rw [k87, u4_79, if_pos rfl], rkm87, ?_, by rw [k87]; exact u12_79⟩
        have rk9 : sp_rk B [4, 8, 9, 10, 11, 12] m m79 := fun k hk hl => by rw [← k87]; exact rkm87 k hk hl
        refine fun h9 => sp_mN.rk (l := []) (sp_mN.add (l := []) hMN bL hw16 hT16 rk9 u4_79 u8_79 u10_79 u9_79 n79 o79) (fun k _ _ => by rw [k87]) (by decide)
      · have hk : k < ws := sp_nlt hb38 (by omega)
        refine sp_aload_n X (pc := 41) (r := some (B 0)) dX12_add_41 rfl rfl ?_
        refine sp_getfield X (pc := 42) (c := 13) (i := 11) (t := 2) (a := (B 0)) (v := va_rf (some (B 11))) rfl hVm1.r.o (by decide) rfl (congrArg va_rf hVm1.f11) fl_Mo_35 dX12_add_42 ?_
        refine sp_bipush X (pc := 45) (v := 16) dX12_add_45 (by decide) ?_
        refine sp_iload_n X (pc := 47) (x := nI n) dX12_add_47 rfl rfl ?_
        refine sp_imul X (pc := 48) dX12_add_48 ?_
        rw [show (16 * (nI n)) = (nI (16 * n)) from (sp_mul 16 n)]
        refine sp_iload X (pc := 49) (x := nI k) dX12_add_49 rfl ?_
        refine sp_iadd X (pc := 51) dX12_add_51 ?_
        rw [show ((nI (16 * n)) + (nI k)) = (nI ((16 * n) + k)) from (nI_add (16 * n) k)]
        refine sp_aload_n X (pc := 52) (r := some (B 0)) dX12_add_52 rfl rfl ?_
        refine sp_getfield X (pc := 53) (c := 13) (i := 34) (t := 2) (a := (B 0)) (v := va_rf (some (B 34))) rfl hVm1.r.o (by decide) rfl (congrArg va_rf hVm1.f34) fl_Mo_86 dX12_add_53 ?_
        refine sp_iload X (pc := 56) (x := nI k) dX12_add_56 rfl ?_
        refine sp_iaload X (pc := 58) (a := (B 34)) rfl (Or.inl hVm1.y34) (sp_in k hVm1.l34 (by omega) (by decide)) dX12_add_58 ?_
        rw [show (m1.aI (B 34) (nI k).toNatClampNeg) = (m1.aI (B 34) k) from (congrArg _ (nI_clamp (n := k) (by omega)))]
        refine sp_iastore X (pc := 59) (a := (B 11)) rfl hVm1.y11 (sp_in ((16 * n) + k) hVm1.l11 (by omega) (by decide))  dX12_add_59 ?_
        rw [show (nI ((16 * n) + k)).toNatClampNeg = ((16 * n) + k) from (nI_clamp (n := ((16 * n) + k)) (by omega))]
        obtain ⟨m59, hm59⟩ : ∃ xm, xm = (m1.sI (B 11) ((16 * n) + k) (m1.aI (B 34) k)) := ⟨_, rfl⟩
        rw [← hm59]
        have hVm59 : sp_V B m0 m59 D R l0 l1 d n b p t e L ws vq vm vl vs vA vE := by
          rw [hm59]
          exact hVm1.sI 11 ((16 * n) + k) _ (by decide) (by decide) (Nat.zero_le _)
        have rkm59 : sp_rk B [4, 8, 9, 10, 11, 12] m m59 := by
          rw [hm59]
          exact rkm1.sI hVm1.r 11 _ _ (by decide) (by decide)
        have f4 : ∀ j, m59.aI (B 4) j = if j = n then kd else m.aI (B 4) j := by
          rw [hm59]
          intro j
          rw [sp_sI_aI, if_neg (fun z => hVm1.ne 4 11 (by decide) (by decide) (by decide) z.1)]
          exact e4 j
        have f8 : ∀ j, m59.aI (B 8) j = if j = n then (nI f) else m.aI (B 8) j := by
          rw [hm59]
          intro j
          rw [sp_sI_aI, if_neg (fun z => hVm1.ne 8 11 (by decide) (by decide) (by decide) z.1)]
          exact e8 j
        have f10 : ∀ j, m59.aI (B 10) j = if j = n then (nI ws) else m.aI (B 10) j := by
          rw [hm59]
          intro j
          rw [sp_sI_aI, if_neg (fun z => hVm1.ne 10 11 (by decide) (by decide) (by decide) z.1)]
          exact e10 j
        have f9 : m59.aI (B 9) = m.aI (B 9) := by
          rw [hm59]
          funext q
          rw [sp_sI_aI, if_neg (fun z => hVm1.ne 9 11 (by decide) (by decide) (by decide) z.1), e9]
        have f12 : m59.aI (B 12) = m.aI (B 12) := by
          rw [hm59]
          funext q
          rw [sp_sI_aI, if_neg (fun z => hVm1.ne 12 11 (by decide) (by decide) (by decide) z.1), e12]
        have fn : ∀ i, i < k + 1 → m59.aI (B 11) (16 * n + i) = m.aI (B 34) i := by
          rw [hm59]
          intro i hi
          rw [sp_sI_aI]
          by_cases q : i = k
          · subst q; rw [if_pos ⟨rfl, rfl⟩, rkm1 34 (by decide) (by decide)]
          · rw [if_neg (by omega)]; exact en i (by omega)
        have fo : ∀ q, q < 16 * n → m59.aI (B 11) q = m.aI (B 11) q := by
          rw [hm59]
          intro q hq
          rw [sp_sI_aI, if_neg (by omega)]; exact eo q hq
        clear hm59
        refine sp_iinc X (pc := 60) (v := (nI (k + 1))) (lv' := [(4, false, .int (nI (k + 1))), (0, false, va_rf (some (B 0))), (3, false, .int (nI n))]) dX12_add_60 rfl ((sp_i1 k)) (by decide) rfl ?_
        refine sp_goto X (pc := 63) (tgt := 32) dX12_add_63 (by decide) ?_
        refine sp_pick X [1, 2, 0] (lv' := [(0, false, va_rf (some (B 0))), (3, false, .int (nI n)), (4, false, .int (nI (k + 1)))]) rfl ?_
        exact ih _ (by omega) (k + 1) _ rkm59 (by omega) hVm59 f4 f8 f10 f9 f12 fn fo rfl
  refine sp_pick X [2, 1, 0] (lv' := [(0, false, va_rf (some (B 0))), (3, false, .int (nI n)), (4, false, .int 0)]) rfl ?_
  exact loop32 _ 0 _ rkm28 (by omega) hVm28 u4_28 u8_28 u10_28 s9_28 s12_28 (fun i z => absurd z (Nat.not_lt_zero _)) (fun q _ => congrFun s11_28 q) rfl
set_option maxHeartbeats 1000000 in
set_option maxRecDepth 20000 in
theorem c_Mo_nextPart (l : Launch) (G : sp_G) (m : sp_M) {B : Nat → Nat} {m0 : sp_M} {D : Nat → Int32} {R : Int32} {l0 l1 : Int64} {d n b p t e L ws : Nat} {vq vm vl : Int32} {vs : Int64} {vA vE : Nat → Int64} (hVm : sp_V B m0 m D R l0 l1 d n b p t e L ws vq vm vl vs vA vE) {f N : Nat} (hN : N ≤ 160) (hf : f ≤ N + 1) : sp_C l G M_Mo_nextPart 0 0 [.ref (B 0), .int (nI f), .int (nI N)] m (sp_oI fun v m' => ∃ w', sp_V B m0 m' D R l0 l1 d n b p t e L w' vq vm vl vs vA vE ∧ sp_wd B m m' ∧ ((v = -1 ∧ sp_NP D R N f none) ∨ ∃ a, v = nI a ∧ sp_NP D R N f (some (a, w')) ∧ 1 ≤ w' ∧ f < a ∧ a ≤ N + 1 ∧ ∀ i, i < w' → m'.aI (B 34) i = D (a - 1 - w' + i))) := by
  refine sp_enter (lv0 := [(0, false, va_rf (some (B 0))), (1, false, .int (nI f)), (2, false, .int (nI N))]) "SafePathsModel" false rfl (by decide) (fun h => by cases h) (Nat.le_of_ble_eq_true rfl) rfl ?_
  intro w X
  have bd := hVm.hd
  have bn := hVm.hn
  have bb := hVm.hb
  have bp := hVm.hp
  have bt := hVm.ht
  have be := hVm.he
  have bw := hVm.hw
  have bL := hVm.hL
  refine sp_iload_n X (pc := 0) (x := nI f) dX12_nextPart_0 rfl rfl ?_
  refine sp_istore_n X (pc := 1) (lv' := [(3, false, .int (nI f)), (0, false, va_rf (some (B 0))), (1, false, .int (nI f)), (2, false, .int (nI N))]) dX12_nextPart_1 rfl (by decide) rfl ?_
  have loop2 : ∀ (dz : Nat) (a w1 : Nat) (m1 : sp_M), a ≤ N + 1 → f ≤ a → sp_V B m0 m1 D R l0 l1 d n b p t e L w1 vq vm vl vs vA vE → (∀ o, sp_NP D R N a o → sp_NP D R N f o) → sp_wd B m m1 → N + 1 - a = dz → w 0 0 m1 2 [(0, false, va_rf (some (B 0))), (2, false, .int (nI N)), (3, false, .int (nI a))] [] := by
    intro dz
    induction dz using Nat.strongRecOn with
    | ind dz ih =>
      intro a w1 m1 ha hfa hVm1 hNP wd1 hdz
      have ihA := ih
      have cut61 : ∀ (r : Nat) (m2 : sp_M), a < N → sp_V B m0 m2 D R l0 l1 d n b p t e L r vq vm vl vs vA vE → sp_RN D R N a r → (∀ i, i < r → m2.aI (B 34) i = D (a + i)) → sp_wd B m m2 → w 0 0 m2 61 [(0, false, va_rf (some (B 0))), (2, false, .int (nI N)), (3, false, .int (nI (a + r)))] [] := by
        intro r m2 hlt hVm2 hRN hw0 wd2
        have br := hRN.1
        refine sp_iinc X (pc := 61) (v := (nI ((a + r) + 1))) (lv' := [(3, false, .int (nI ((a + r) + 1))), (0, false, va_rf (some (B 0))), (2, false, .int (nI N))]) dX12_nextPart_61 rfl ((sp_i1 (a + r))) (by decide) rfl ?_
        refine sp_aload_n X (pc := 64) (r := some (B 0)) dX12_nextPart_64 rfl rfl ?_
        refine sp_getfield X (pc := 65) (c := 13) (i := 35) (t := 0) (a := (B 0)) (v := .int (nI r)) rfl hVm2.r.o (by decide) rfl (congrArg Value.int hVm2.cw) fl_Mo_107 dX12_nextPart_65 ?_
        refine sp_if_le X (pc := 68) (tgt := 2) dX12_nextPart_68 (by decide) (fun hb68 => ?_) (fun hb68 => ?_)
        · have hr0 : r = 0 := by
            have := sp_nge (b := r) (a := 0) hb68 (by omega) (by omega)
            omega
          have hwk : ¬ sp_wkk D a r := fun z => by have := z.1; omega
          refine sp_pick X [1, 2, 0] (lv' := [(0, false, va_rf (some (B 0))), (2, false, .int (nI N)), (3, false, .int (nI ((a + r) + 1)))]) rfl ?_
          exact ihA _ (by omega) (a + r + 1) _ _ (by have := hRN.1; omega) (by omega) hVm2 (fun o ho => hNP o (sp_NP.skip hlt hRN hwk ho)) wd2 rfl
        · have hr0 : 0 < r := sp_nlt (b := r) (a := 0) hb68 (by omega)
          refine sp_aload_n X (pc := 71) (r := some (B 0)) dX12_nextPart_71 rfl rfl ?_
          refine sp_getfield X (pc := 72) (c := 13) (i := 35) (t := 0) (a := (B 0)) (v := .int (nI r)) rfl hVm2.r.o (by decide) rfl (congrArg Value.int hVm2.cw) fl_Mo_107 dX12_nextPart_72 ?_
          refine sp_iconst X (pc := 75) (v := 1) dX12_nextPart_75 (by decide) ?_
          refine sp_icmp_ne X (pc := 76) (tgt := 90) dX12_nextPart_76 (by decide) (fun hb76 => ?_) (fun hb76 => ?_)
          · have hwk : sp_wkk D a r := ⟨hr0, fun z => hb76 (by rw [z.1]; rfl)⟩
            refine sp_iload_n X (pc := 90) (x := (nI ((a + r) + 1))) dX12_nextPart_90 rfl rfl ?_
            refine sp_ireturn X (pc := 91) dX12_nextPart_91 rfl ⟨_, rfl, ?_⟩
            exact ⟨_, hVm2, wd2, Or.inr ⟨a + r + 1, rfl, hNP _ (sp_NP.hit hlt hRN hwk), hr0, by omega, by have := hRN.1; omega, fun i hi => by rw [show a + r + 1 - 1 - r = a by omega]; exact hw0 i hi⟩⟩
          · have hr1e : r = 1 := sp_neq (b := 1) hb76 (by omega) (by omega)
            refine sp_aload_n X (pc := 79) (r := some (B 0)) dX12_nextPart_79 rfl rfl ?_
            refine sp_getfield X (pc := 80) (c := 13) (i := 34) (t := 2) (a := (B 0)) (v := va_rf (some (B 34))) rfl hVm2.r.o (by decide) rfl (congrArg va_rf hVm2.f34) fl_Mo_86 dX12_nextPart_80 ?_
            refine sp_iconst X (pc := 83) (v := 0) dX12_nextPart_83 (by decide) ?_
            refine sp_iaload X (pc := 84) (a := (B 34)) rfl (Or.inl hVm2.y34) (sp_in 0 hVm2.l34 (by omega) (by decide)) dX12_nextPart_84 ?_
            rw [show (m2.aI (B 34) (Int32.toNatClampNeg 0)) = (m2.aI (B 34) 0) from (congrArg _ (nI_clamp (n := 0) (by omega)))]
            rw [show (m2.aI (B 34) 0) = (D a) from (hw0 0 (by omega))]
            refine sp_bipush X (pc := 85) (v := 46) dX12_nextPart_85 (by decide) ?_
            refine sp_icmp_eq X (pc := 87) (tgt := 2) dX12_nextPart_87 (by decide) (fun hb87 => ?_) (fun hb87 => ?_)
            · have hwk : ¬ sp_wkk D a r := fun z => z.2 ⟨hr1e, hb87⟩
              refine sp_pick X [1, 2, 0] (lv' := [(0, false, va_rf (some (B 0))), (2, false, .int (nI N)), (3, false, .int (nI ((a + r) + 1)))]) rfl ?_
              exact ihA _ (by omega) (a + r + 1) _ _ (by have := hRN.1; omega) (by omega) hVm2 (fun o ho => hNP o (sp_NP.skip hlt hRN hwk ho)) wd2 rfl
            · have hwk : sp_wkk D a r := ⟨hr0, fun z => hb87 z.2⟩
              refine sp_iload_n X (pc := 90) (x := (nI ((a + r) + 1))) dX12_nextPart_90 rfl rfl ?_
              refine sp_ireturn X (pc := 91) dX12_nextPart_91 rfl ⟨_, rfl, ?_⟩
              exact ⟨_, hVm2, wd2, Or.inr ⟨a + r + 1, rfl, hNP _ (sp_NP.hit hlt hRN hwk), hr0, by omega, by have := hRN.1; omega, fun i hi => by rw [show a + r + 1 - 1 - r = a by omega]; exact hw0 i hi⟩⟩
      refine sp_iload_n X (pc := 2) (x := nI a) dX12_nextPart_2 rfl rfl ?_
      refine sp_iload_n X (pc := 3) (x := nI N) dX12_nextPart_3 rfl rfl ?_
      refine sp_icmp_ge X (pc := 4) (tgt := 92) dX12_nextPart_4 (by decide) (fun hb4 => ?_) (fun hb4 => ?_)
      · have hge : N ≤ a := sp_nge hb4 (by omega) (by omega)
        refine sp_iconst X (pc := 92) (v := (-1)) dX12_nextPart_92 (by decide) ?_
        refine sp_ireturn X (pc := 93) dX12_nextPart_93 rfl ⟨_, rfl, ?_⟩
        exact ⟨_, hVm1, wd1, Or.inl ⟨rfl, hNP _ (sp_NP.done (by omega))⟩⟩
      · have hlt : a < N := sp_nlt hb4 (by omega)
        refine sp_aload_n X (pc := 7) (r := some (B 0)) dX12_nextPart_7 rfl rfl ?_
        refine sp_iconst X (pc := 8) (v := 0) dX12_nextPart_8 (by decide) ?_
        refine sp_putI X (pc := 9) (c := 13) (i := 35) (q := 867) (a := (B 0)) rfl hVm1.r.o (by decide) rfl rfl (Or.inl rfl) ⟨rfl, rfl⟩ fl_Mo_107 dX12_nextPart_9 ?_
        obtain ⟨m9, hm9⟩ : ∃ xm, xm = (m1.pI 867 (B 0) 0) := ⟨_, rfl⟩
        rw [← hm9]
        have hVm9 : sp_V B m0 m9 D R l0 l1 d n b p t e L 0 vq vm vl vs vA vE := by
          rw [hm9]
          exact hVm1.pw 0 (by omega)
        have wd9 : sp_wd B m m9 := by
          rw [hm9]
          exact wd1.pI _
        clear hm9
        have loop12 : ∀ (dz : Nat) (r : Nat) (m2 : sp_M), sp_V B m0 m2 D R l0 l1 d n b p t e L r vq vm vl vs vA vE → a + r ≤ N → (∀ j, j < r → sp_pb R (D (a + j)) = 0) → (∀ i, i < r → m2.aI (B 34) i = D (a + i)) → sp_wd B m m2 → N - (a + r) = dz → w 0 0 m2 12 [(0, false, va_rf (some (B 0))), (2, false, .int (nI N)), (3, false, .int (nI (a + r)))] [] := by
          intro dz
          induction dz using Nat.strongRecOn with
          | ind dz ih =>
            intro r m2 hVm2 hr1 hr2 hw0 wd2 hdz
            refine sp_iload_n X (pc := 12) (x := nI (a + r)) dX12_nextPart_12 rfl rfl ?_
            refine sp_iload_n X (pc := 13) (x := nI N) dX12_nextPart_13 rfl rfl ?_
            refine sp_icmp_ge X (pc := 14) (tgt := 61) dX12_nextPart_14 (by decide) (fun hb14 => ?_) (fun hb14 => ?_)
            · have hge2 : N ≤ a + r := sp_nge hb14 (by omega) (by omega)
              have hRN : sp_RN D R N a r := ⟨hr1, hr2, fun z => by omega⟩
              exact cut61 r _ hlt hVm2 hRN hw0 wd2
            · have hlt2 : a + r < N := sp_nlt hb14 (by omega)
              refine sp_aload_n X (pc := 17) (r := some (B 0)) dX12_nextPart_17 rfl rfl ?_
              refine sp_aload_n X (pc := 18) (r := some (B 0)) dX12_nextPart_18 rfl rfl ?_
              refine sp_getfield X (pc := 19) (c := 13) (i := 1) (t := 2) (a := (B 0)) (v := va_rf (some (B 1))) rfl hVm2.r.o (by decide) rfl (congrArg va_rf hVm2.f1) fl_Mo_7 dX12_nextPart_19 ?_
              refine sp_iload_n X (pc := 22) (x := nI (a + r)) dX12_nextPart_22 rfl rfl ?_
              refine sp_iaload X (pc := 23) (a := (B 1)) rfl (Or.inl hVm2.y1) (sp_in (a + r) hVm2.l1 (by omega) (by decide)) dX12_nextPart_23 ?_
              rw [show (m2.aI (B 1) (nI (a + r)).toNatClampNeg) = (m2.aI (B 1) (a + r)) from (congrArg _ (nI_clamp (n := (a + r)) (by omega)))]
              rw [show (m2.aI (B 1) (a + r)) = (D (a + r)) from (congrFun hVm2.dr _)]
              refine sp_callV X (pc := 24) (mc := 0) (ms := 0) (b := (B 0)) (c := 13) (r := some (B 0)) (As := [.int (D (a + r))]) (rest := []) (c_Mo_isParting l G _ hVm2) ok_Mo_isParting rfl hVm2.r.o (by decide) rfl lk_Mo_125 rfl rfl (Nat.zero_le _) (Nat.le_of_ble_eq_true rfl) (Nat.le_of_ble_eq_true rfl) (Nat.zero_le _) (Nat.zero_le _) dX12_nextPart_24 (sp_kI fun v24 m24 hp24 => ?_)
              obtain ⟨hp24v, hp24⟩ := hp24; replace hp24 := (hp24).symm; subst hp24; replace hp24v := (hp24v).symm; subst hp24v
              refine sp_if_ne X (pc := 27) (tgt := 61) dX12_nextPart_27 (by decide) (fun hb27 => ?_) (fun hb27 => ?_)
              · have hRN : sp_RN D R N a r := ⟨hr1, hr2, fun _ => hb27⟩
                exact cut61 r _ hlt hVm2 hRN hw0 wd2
              · refine sp_aload_n X (pc := 30) (r := some (B 0)) dX12_nextPart_30 rfl rfl ?_
                refine sp_getfield X (pc := 31) (c := 13) (i := 34) (t := 2) (a := (B 0)) (v := va_rf (some (B 34))) rfl hVm2.r.o (by decide) rfl (congrArg va_rf hVm2.f34) fl_Mo_86 dX12_nextPart_31 ?_
                refine sp_aload_n X (pc := 34) (r := some (B 0)) dX12_nextPart_34 rfl rfl ?_
                refine sp_getfield X (pc := 35) (c := 13) (i := 35) (t := 0) (a := (B 0)) (v := .int (nI r)) rfl hVm2.r.o (by decide) rfl (congrArg Value.int hVm2.cw) fl_Mo_107 dX12_nextPart_35 ?_
                refine sp_aload_n X (pc := 38) (r := some (B 0)) dX12_nextPart_38 rfl rfl ?_
                refine sp_getfield X (pc := 39) (c := 13) (i := 1) (t := 2) (a := (B 0)) (v := va_rf (some (B 1))) rfl hVm2.r.o (by decide) rfl (congrArg va_rf hVm2.f1) fl_Mo_7 dX12_nextPart_39 ?_
                refine sp_iload_n X (pc := 42) (x := nI (a + r)) dX12_nextPart_42 rfl rfl ?_
                refine sp_iaload X (pc := 43) (a := (B 1)) rfl (Or.inl hVm2.y1) (sp_in (a + r) hVm2.l1 (by omega) (by decide)) dX12_nextPart_43 ?_
                rw [show (m2.aI (B 1) (nI (a + r)).toNatClampNeg) = (m2.aI (B 1) (a + r)) from (congrArg _ (nI_clamp (n := (a + r)) (by omega)))]
                rw [show (m2.aI (B 1) (a + r)) = (D (a + r)) from (congrFun hVm2.dr _)]
                refine sp_iastore X (pc := 44) (a := (B 34)) rfl hVm2.y34 (sp_in r hVm2.l34 (by omega) (by decide))  dX12_nextPart_44 ?_
                rw [show (nI r).toNatClampNeg = r from (nI_clamp (n := r) (by omega))]
                obtain ⟨m44, hm44⟩ : ∃ xm, xm = (m2.sI (B 34) r (D (a + r))) := ⟨_, rfl⟩
                rw [← hm44]
                have hVm44 : sp_V B m0 m44 D R l0 l1 d n b p t e L r vq vm vl vs vA vE := by
                  rw [hm44]
                  exact hVm2.sI 34 r _ (by decide) (by decide) (Nat.zero_le _)
                have k0 : ∀ i, i < r + 1 → m44.aI (B 34) i = D (a + i) := by
                  rw [hm44]
                  intro i hi
                  rw [sp_sI_aI]
                  by_cases q : i = r
                  · subst q; rw [if_pos ⟨rfl, rfl⟩]
                  · rw [if_neg (fun z => q z.2)]; exact hw0 i (by omega)
                have wd44 : sp_wd B m m44 := by
                  rw [hm44]
                  exact wd2.sI _ _
                clear hm44
                refine sp_aload_n X (pc := 45) (r := some (B 0)) dX12_nextPart_45 rfl rfl ?_
                refine sp_dup X (pc := 46) dX12_nextPart_46 (sp_cat_rf _) ?_
                refine sp_getfield X (pc := 47) (c := 13) (i := 35) (t := 0) (a := (B 0)) (v := .int (nI r)) rfl hVm44.r.o (by decide) rfl (congrArg Value.int hVm44.cw) fl_Mo_107 dX12_nextPart_47 ?_
                refine sp_iconst X (pc := 50) (v := 1) dX12_nextPart_50 (by decide) ?_
                refine sp_iadd X (pc := 51) dX12_nextPart_51 ?_
                rw [show ((nI r) + 1) = (nI (r + 1)) from (nI_add r 1)]
                refine sp_putI X (pc := 52) (c := 13) (i := 35) (q := 867) (a := (B 0)) rfl hVm44.r.o (by decide) rfl rfl (Or.inl rfl) ⟨rfl, rfl⟩ fl_Mo_107 dX12_nextPart_52 ?_
                obtain ⟨m52, hm52⟩ : ∃ xm, xm = (m44.pI 867 (B 0) (nI (r + 1))) := ⟨_, rfl⟩
                rw [← hm52]
                have hVm52 : sp_V B m0 m52 D R l0 l1 d n b p t e L (r + 1) vq vm vl vs vA vE := by
                  rw [hm52]
                  exact hVm44.pw (r + 1) (by omega)
                have k1 : ∀ i, i < r + 1 → m52.aI (B 34) i = D (a + i) := by
                  rw [hm52]
                  exact k0
                have wd52 : sp_wd B m m52 := by
                  rw [hm52]
                  exact wd44.pI _
                clear hm52
                refine sp_iinc X (pc := 55) (v := (nI ((a + r) + 1))) (lv' := [(3, false, .int (nI ((a + r) + 1))), (0, false, va_rf (some (B 0))), (2, false, .int (nI N))]) dX12_nextPart_55 rfl ((sp_i1 (a + r))) (by decide) rfl ?_
                refine sp_goto X (pc := 58) (tgt := 12) dX12_nextPart_58 (by decide) ?_
                refine sp_pick X [1, 2, 0] (lv' := [(0, false, va_rf (some (B 0))), (2, false, .int (nI N)), (3, false, .int (nI ((a + r) + 1)))]) rfl ?_
                exact ih _ (by omega) (r + 1) _ hVm52 (by omega) (fun j z => by
                  by_cases q : j < r
                  · exact hr2 j q
                  · obtain rfl : j = r := by omega
                    exact hb27) k1 wd52 rfl
        exact loop12 _ 0 _ hVm9 (by omega) (fun j z => by omega) (fun j z => by omega) wd9 rfl
  refine sp_pick X [1, 3, 0] (lv' := [(0, false, va_rf (some (B 0))), (2, false, .int (nI N)), (3, false, .int (nI f))]) rfl ?_
  exact loop2 _ f _ _ hf (Nat.le_refl _) hVm (fun _ z => z) (sp_wd.refl B m) rfl
set_option maxHeartbeats 4000000 in
set_option maxRecDepth 20000 in
theorem c_Mo_path (l : Launch) (G : sp_G) (m : sp_M) {B : Nat → Nat} {m0 : sp_M} {D : Nat → Int32} {R : Int32} {l0 l1 : Int64} {d n b p t e L ws : Nat} {vq vm vl : Int32} {vs : Int64} {vA vE : Nat → Int64} (hVm : sp_V B m0 m D R l0 l1 d n b p t e L ws vq vm vl vs vA vE) {PT : Nat → List (List Int32)} (hP : sp_mP m B p PT) (hPl : pu_P p PT) : sp_C l G M_Mo_path 0 0 [.ref (B 0)] m (sp_oI fun v m' => ∃ us, sp_us D R d us ∧ ((pu_ref v R D d p us ∧ ∃ w', sp_V B m0 m' D R l0 l1 0 n b p t e L w' vq vm vl vs vA vE ∧ sp_rk B [34] m m') ∨ (pu_ok R D d p us ∧ v = nI p ∧ ∃ w', sp_V B m0 m' D R l0 l1 0 n b (p + 1) t e L w' vq vm vl vs vA vE ∧ sp_rk B [18, 19, 20, 34] m m' ∧ sp_mP m' B (p + 1) (fun j => if j = p then us else PT j)))) := by
  refine sp_enter (lv0 := [(0, false, va_rf (some (B 0)))]) "SafePathsModel" false rfl (by decide) (fun h => by cases h) (Nat.le_of_ble_eq_true rfl) rfl ?_
  intro w X
  have bd := hVm.hd
  have bn := hVm.hn
  have bb := hVm.hb
  have bp := hVm.hp
  have bt := hVm.ht
  have be := hVm.he
  have bw := hVm.hw
  have bL := hVm.hL
  have hD := hVm.dr
  have cut298 : ∀ (k k2 w1 : Nat) (li : List (Nat × Nat)) (m1 : sp_M), sp_V B m0 m1 D R l0 l1 0 n b p t e L w1 vq vm vl vs vA vE → 1 ≤ k → k ≤ 8 → p < 60 → li.length = k → sp_us D R d (li.map (sp_nme D)) → pu_ok R D d p (li.map (sp_nme D)) → k2 = k → (sp_rk B [19, 20, 34] m m1 ∧ (∀ q, q < 8 * p → m1.aI (B 19) q = m.aI (B 19) q) ∧ (∀ q, q < 128 * p → m1.aI (B 20) q = m.aI (B 20) q) ∧ (∀ q, q < k2 → sp_pc m1 B (8 * p + q) ((li.map (sp_nme D)).getD q []))) → w 0 0 m1 298 [(0, false, va_rf (some (B 0))), (2, false, .int (nI k))] [] := by
    intro k k2 w1 li m1 hVm1 hk1 hk8 hp60 hkl hUS hok hk29 hPW
    have hk28 := hk29.symm
    subst hk28
    obtain ⟨pw1, pw2, pw3, pw4⟩ := hPW
    refine sp_aload_n X (pc := 298) (r := some (B 0)) dX12_path_298 rfl rfl ?_
    refine sp_getfield X (pc := 299) (c := 13) (i := 18) (t := 2) (a := (B 0)) (v := va_rf (some (B 18))) rfl hVm1.r.o (by decide) rfl (congrArg va_rf hVm1.f18) fl_Mo_48 dX12_path_299 ?_
    refine sp_aload_n X (pc := 302) (r := some (B 0)) dX12_path_302 rfl rfl ?_
    refine sp_getfield X (pc := 303) (c := 13) (i := 17) (t := 0) (a := (B 0)) (v := .int (nI p)) rfl hVm1.r.o (by decide) rfl (congrArg Value.int hVm1.cp) fl_Mo_146 dX12_path_303 ?_
    refine sp_iload_n X (pc := 306) (x := nI k) dX12_path_306 rfl rfl ?_
    refine sp_iastore X (pc := 307) (a := (B 18)) rfl hVm1.y18 (sp_in p hVm1.l18 (by omega) (by decide))  dX12_path_307 ?_
    rw [show (nI p).toNatClampNeg = p from (nI_clamp (n := p) (by omega))]
    obtain ⟨m307, hm307⟩ : ∃ xm, xm = (m1.sI (B 18) p (nI k)) := ⟨_, rfl⟩
    rw [← hm307]
    have hVm307 : sp_V B m0 m307 D R l0 l1 0 n b p t e L w1 vq vm vl vs vA vE := by
      rw [hm307]
      exact hVm1.sI 18 p _ (by decide) (by decide) (Nat.le_refl _)
    have k18 : m307.aI (B 18) p = nI k := by
      rw [hm307]
      rw [sp_sI_aI, if_pos ⟨rfl, rfl⟩]
    have tw1 : sp_rk B [18, 19, 20, 34] m m307 := by
      rw [hm307]
      exact (pw1.mono (by decide)).sI hVm1.r 18 _ _ (by decide) (by decide)
    have tw2 : m307.aI (B 19) = m1.aI (B 19) := by
      rw [hm307]
      funext q
      rw [sp_sI_aI, if_neg (fun z => hVm1.ne 19 18 (by decide) (by decide) (by decide) z.1)]
    have tw3 : m307.aI (B 20) = m1.aI (B 20) := by
      rw [hm307]
      funext q
      rw [sp_sI_aI, if_neg (fun z => hVm1.ne 20 18 (by decide) (by decide) (by decide) z.1)]
    have tw4 : ∀ q, q < p → m307.aI (B 18) q = m.aI (B 18) q := by
      rw [hm307]
      intro q hq
      rw [sp_sI_aI, if_neg (by omega), pw1 18 (by decide) (by decide)]
    clear hm307
    refine sp_aload_n X (pc := 308) (r := some (B 0)) dX12_path_308 rfl rfl ?_
    refine sp_dup X (pc := 309) dX12_path_309 (sp_cat_rf _) ?_
    refine sp_getfield X (pc := 310) (c := 13) (i := 17) (t := 0) (a := (B 0)) (v := .int (nI p)) rfl hVm307.r.o (by decide) rfl (congrArg Value.int hVm307.cp) fl_Mo_146 dX12_path_310 ?_
    refine sp_iconst X (pc := 313) (v := 1) dX12_path_313 (by decide) ?_
    refine sp_iadd X (pc := 314) dX12_path_314 ?_
    rw [show ((nI p) + 1) = (nI (p + 1)) from (nI_add p 1)]
    refine sp_putI X (pc := 315) (c := 13) (i := 17) (q := 849) (a := (B 0)) rfl hVm307.r.o (by decide) rfl rfl (Or.inl rfl) ⟨rfl, rfl⟩ fl_Mo_146 dX12_path_315 ?_
    obtain ⟨m315, hm315⟩ : ∃ xm, xm = (m307.pI 849 (B 0) (nI (p + 1))) := ⟨_, rfl⟩
    rw [← hm315]
    have hVm315 : sp_V B m0 m315 D R l0 l1 0 n b (p + 1) t e L w1 vq vm vl vs vA vE := by
      rw [hm315]
      exact hVm307.pp (p + 1) (by omega) (by omega) (fun j q1 q2 => ⟨k, by
  obtain rfl : j = p := by omega
  exact k18, hk1, hk8⟩)
    have k315 : m315.aI = m307.aI := by
      rw [hm315]
      rfl
    clear hm315
    refine sp_aload_n X (pc := 318) (r := some (B 0)) dX12_path_318 rfl rfl ?_
    refine sp_getfield X (pc := 319) (c := 13) (i := 17) (t := 0) (a := (B 0)) (v := .int (nI (p + 1))) rfl hVm315.r.o (by decide) rfl (congrArg Value.int hVm315.cp) fl_Mo_146 dX12_path_319 ?_
    refine sp_iconst X (pc := 322) (v := 1) dX12_path_322 (by decide) ?_
    refine sp_isub X (pc := 323) dX12_path_323 ?_
    refine sp_ireturn X (pc := 324) dX12_path_324 rfl ⟨_, rfl, ?_⟩
    refine ⟨_, hUS, Or.inr ⟨hok, nI_pred p, _, hVm315, fun k hk hl => by rw [k315]; exact tw1 k hk hl, fun j hj => ?_⟩⟩
    unfold sp_pc
    rw [k315, tw2, tw3]
    dsimp only
    by_cases q : j = p
    · subst q
      rw [if_pos rfl, List.length_map, hkl]
      exact ⟨k18, fun q hq => pw4 q hq⟩
    · rw [if_neg q, tw4 j (by omega)]
      have z := hP j (by omega)
      have zl := hPl j (by omega)
      refine ⟨z.1, fun q hq => ⟨?_, fun i hi => ?_⟩⟩
      · rw [pw2 _ (by omega)]; exact (z.2 q hq).1
      · have := (zl.2.2 q hq).2
        rw [pw3 _ (by omega)]; exact (z.2 q hq).2 i hi
  have cut161 : ∀ (k w1 : Nat) (x1 x2 g : Int32) (li : List (Nat × Nat)) (m1 : sp_M), sp_V B m0 m1 D R l0 l1 0 n b p t e L w1 vq vm vl vs vA vE → (∀ a, a ≠ B 34 → m1.aI a = m.aI a) → li.length = k → sp_bo x1 (pu_U (li.map (sp_nme D))) → sp_bo x2 (pu_B R (li.map (sp_nme D))) → sp_bo g (pu_T (li.map (sp_nme D))) → sp_TR D R d 0 li → k ≤ 200 → sp_rk B [34] m m1 → sp_us D R d (li.map (sp_nme D)) → 1 ≤ k → ¬ li.map (sp_nme D) = [] → ¬ pu_abs R D d → w 0 0 m1 161 [(0, false, va_rf (some (B 0))), (1, false, .int (nI d)), (2, false, .int (nI k)), (3, false, .int x1), (4, false, .int x2), (5, false, .int g)] [] := by
    intro k w1 x1 x2 g li m1 hVm1 wd1 hkl hx1 hx2 hg hTR hk200 rk1 hUS hk1 hne hna
    refine sp_iload_n X (pc := 161) (x := x1) dX12_path_161 rfl rfl ?_
    refine sp_if_eq X (pc := 162) (tgt := 168) dX12_path_162 (by decide) (fun hb162 => ?_) (fun hb162 => ?_)
    · refine sp_iload X (pc := 168) (x := x2) dX12_path_168 rfl ?_
      refine sp_if_eq X (pc := 170) (tgt := 176) dX12_path_170 (by decide) (fun hb170 => ?_) (fun hb170 => ?_)
      · refine sp_iload X (pc := 176) (x := g) dX12_path_176 rfl ?_
        refine sp_if_ne X (pc := 178) (tgt := 187) dX12_path_178 (by decide) (fun hb178 => ?_) (fun hb178 => ?_)
        · have hT8 : 8 < (li.map (sp_nme D)).length ∨ pu_T (li.map (sp_nme D)) := Or.inr (hg.ne hb178)
          refine sp_bipush X (pc := 187) (v := (-5)) dX12_path_187 (by decide) ?_
          refine sp_ireturn X (pc := 189) dX12_path_189 rfl ⟨_, rfl, ?_⟩
          exact ⟨_, hUS, Or.inl ⟨Or.inr (Or.inr ⟨hne, hna, Or.inl ⟨by decide, Or.inr (Or.inr (Or.inl ⟨rfl, hx1.eq hb162, hx2.eq hb170, hT8⟩))⟩⟩), _, hVm1, rk1⟩⟩
        · refine sp_iload_n X (pc := 181) (x := nI k) dX12_path_181 rfl rfl ?_
          refine sp_bipush X (pc := 182) (v := 8) dX12_path_182 (by decide) ?_
          refine sp_icmp_le X (pc := 184) (tgt := 190) dX12_path_184 (by decide) (fun hb184 => ?_) (fun hb184 => ?_)
          · have hk8 : k ≤ 8 := sp_nge (b := k) (a := 8) hb184 (by omega) (by omega)
            have hT8 : ¬ (8 < (li.map (sp_nme D)).length ∨ pu_T (li.map (sp_nme D))) := by
              rintro (z | z)
              · rw [List.length_map, hkl] at z; omega
              · exact hg.eq hb178 z
            have hE0 : pu_er 0 (pu_U (li.map (sp_nme D))) (pu_B R (li.map (sp_nme D))) (8 < (li.map (sp_nme D)).length ∨ pu_T (li.map (sp_nme D))) := Or.inr (Or.inr (Or.inr ⟨rfl, hx1.eq hb162, hx2.eq hb170, hT8⟩))
            have hl16 : ∀ x, x ∈ li → x.2 ≤ 16 := fun x hx => Nat.le_of_not_lt (fun z => hT8 (Or.inr ⟨sp_nme D x, List.mem_map.mpr ⟨x, hx, rfl⟩, by rw [sp_nme_len]; exact z⟩))
            refine sp_aload_n X (pc := 190) (r := some (B 0)) dX12_path_190 rfl rfl ?_
            refine sp_getfield X (pc := 191) (c := 13) (i := 17) (t := 0) (a := (B 0)) (v := .int (nI p)) rfl hVm1.r.o (by decide) rfl (congrArg Value.int hVm1.cp) fl_Mo_146 dX12_path_191 ?_
            refine sp_bipush X (pc := 194) (v := 60) dX12_path_194 (by decide) ?_
            refine sp_icmp_ne X (pc := 196) (tgt := 202) dX12_path_196 (by decide) (fun hb196 => ?_) (fun hb196 => ?_)
            · have hp60 : p < 60 := by
                have : p ≠ 60 := fun z => hb196 (by rw [z]; rfl)
                omega
              have hok : pu_ok R D d p (li.map (sp_nme D)) := ⟨hne, hna, hE0, hp60⟩
              refine sp_iconst X (pc := 202) (v := 0) dX12_path_202 (by decide) ?_
              refine sp_istore X (pc := 203) (lv' := [(7, false, .int 0), (0, false, va_rf (some (B 0))), (1, false, .int (nI d)), (2, false, .int (nI k)), (3, false, .int x1), (4, false, .int x2), (5, false, .int g)]) dX12_path_203  (by decide) rfl ?_
              refine sp_aload_n X (pc := 205) (r := some (B 0)) dX12_path_205 rfl rfl ?_
              refine sp_iconst X (pc := 206) (v := 0) dX12_path_206 (by decide) ?_
              refine sp_iload_n X (pc := 207) (x := nI d) dX12_path_207 rfl rfl ?_
              refine sp_callV X (pc := 208) (mc := 0) (ms := 0) (b := (B 0)) (c := 13) (r := some (B 0)) (As := [.int 0, .int (nI d)]) (rest := []) (c_Mo_nextPart l G _ hVm1 (N := d) (f := 0) (by omega) (by omega)) ok_Mo_nextPart rfl hVm1.r.o (by decide) rfl lk_Mo_136 rfl rfl (Nat.zero_le _) (Nat.le_of_ble_eq_true rfl) (Nat.le_of_ble_eq_true rfl) (Nat.zero_le _) (Nat.zero_le _) dX12_path_208 (sp_kI fun v208 m208 hp208 => ?_)
              obtain ⟨w208, hVm208, hwd208, hr208⟩ := hp208
              refine sp_istore X (pc := 211) (lv' := [(8, false, .int v208), (7, false, .int 0), (0, false, va_rf (some (B 0))), (1, false, .int (nI d)), (2, false, .int (nI k)), (3, false, .int x1), (4, false, .int x2), (5, false, .int g)]) dX12_path_211  (by decide) rfl ?_
              have loop213 : ∀ (dz : Nat) (v : Int32) (k2 w2 z : Nat) (dn ls : List (Nat × Nat)) (m2 : sp_M), sp_V B m0 m2 D R l0 l1 0 n b p t e L w2 vq vm vl vs vA vE → dn.length = k2 → li = dn ++ ls → (sp_rk B [19, 20, 34] m m2 ∧ (∀ q, q < 8 * p → m2.aI (B 19) q = m.aI (B 19) q) ∧ (∀ q, q < 128 * p → m2.aI (B 20) q = m.aI (B 20) q) ∧ (∀ q, q < k2 → sp_pc m2 B (8 * p + q) ((li.map (sp_nme D)).getD q []))) → ((v = -1 ∧ ls = [] ∧ z = 0) ∨ ∃ a l', v = nI a ∧ 1 ≤ w2 ∧ a ≤ d + 1 ∧ ls = (a, w2) :: l' ∧ sp_TR D R d a l' ∧ (∀ i, i < w2 → m2.aI (B 34) i = D (a - 1 - w2 + i)) ∧ z = d + 2 - a) → z = dz → w 0 0 m2 213 [(0, false, va_rf (some (B 0))), (1, false, .int (nI d)), (2, false, .int (nI k)), (7, false, .int (nI k2)), (8, false, .int v)] [] := by
                intro dz
                induction dz using Nat.strongRecOn with
                | ind dz ih =>
                  intro v k2 w2 z dn ls m2 hVm2 hdn hli hPW hv hdz
                  have ihA := ih
                  refine sp_iload X (pc := 213) (x := v) dX12_path_213 rfl ?_
                  refine sp_if_lt X (pc := 215) (tgt := 298) dX12_path_215 (by decide) (fun hb215 => ?_) (fun hb215 => ?_)
                  · have hk29 : k2 = k := by
                      rcases hv with ⟨-, q, -⟩ | ⟨a, l', q, -, q3, -⟩
                      · rw [hli, q, List.append_nil] at hkl; omega
                      · rw [q] at hb215; exact absurd hb215 (nI_pos (by omega))
                    refine sp_pick X [0, 2] (lv' := [(0, false, va_rf (some (B 0))), (2, false, .int (nI k))]) rfl ?_
                    exact cut298 k k2 _ li _ hVm2 hk1 hk8 hp60 hkl hUS hok hk29 hPW
                  · have hv2 : ∃ a l', v = nI a ∧ 1 ≤ w2 ∧ a ≤ d + 1 ∧ ls = (a, w2) :: l' ∧ sp_TR D R d a l' ∧ (∀ i, i < w2 → m2.aI (B 34) i = D (a - 1 - w2 + i)) ∧ z = d + 2 - a := by
                      rcases hv with ⟨q, -, -⟩ | q
                      · rw [q] at hb215; exact absurd (by decide) hb215
                      · exact q
                    obtain ⟨a, l', rfl, hw1, ha, rfl, hT, hct, hz⟩ := hv2
                    have hl9 : k2 + l'.length + 1 = k := by rw [← hkl, hli, List.length_append, List.length_cons]; omega
                    have hw16 : w2 ≤ 16 := hl16 (a, w2) (by rw [hli]; exact List.mem_append.mpr (Or.inr List.mem_cons_self))
                    have hget : (li.map (sp_nme D)).getD k2 [] = sp_nme D (a, w2) := by
                      rw [sp_mapD D li (by omega), hli, List.getD_eq_getElem?_getD, List.getElem?_append_right (by omega), hdn]
                      simp
                    obtain ⟨pw1, pw2, pw3, pw4⟩ := hPW
                    refine sp_aload_n X (pc := 218) (r := some (B 0)) dX12_path_218 rfl rfl ?_
                    refine sp_getfield X (pc := 219) (c := 13) (i := 19) (t := 2) (a := (B 0)) (v := va_rf (some (B 19))) rfl hVm2.r.o (by decide) rfl (congrArg va_rf hVm2.f19) fl_Mo_51 dX12_path_219 ?_
                    refine sp_bipush X (pc := 222) (v := 8) dX12_path_222 (by decide) ?_
                    refine sp_aload_n X (pc := 224) (r := some (B 0)) dX12_path_224 rfl rfl ?_
                    refine sp_getfield X (pc := 225) (c := 13) (i := 17) (t := 0) (a := (B 0)) (v := .int (nI p)) rfl hVm2.r.o (by decide) rfl (congrArg Value.int hVm2.cp) fl_Mo_146 dX12_path_225 ?_
                    refine sp_imul X (pc := 228) dX12_path_228 ?_
                    rw [show (8 * (nI p)) = (nI (8 * p)) from (sp_mul 8 p)]
                    refine sp_iload X (pc := 229) (x := nI k2) dX12_path_229 rfl ?_
                    refine sp_iadd X (pc := 231) dX12_path_231 ?_
                    rw [show ((nI (8 * p)) + (nI k2)) = (nI ((8 * p) + k2)) from (nI_add (8 * p) k2)]
                    refine sp_aload_n X (pc := 232) (r := some (B 0)) dX12_path_232 rfl rfl ?_
                    refine sp_getfield X (pc := 233) (c := 13) (i := 35) (t := 0) (a := (B 0)) (v := .int (nI w2)) rfl hVm2.r.o (by decide) rfl (congrArg Value.int hVm2.cw) fl_Mo_107 dX12_path_233 ?_
                    refine sp_iastore X (pc := 236) (a := (B 19)) rfl hVm2.y19 (sp_in ((8 * p) + k2) hVm2.l19 (by omega) (by decide))  dX12_path_236 ?_
                    rw [show (nI ((8 * p) + k2)).toNatClampNeg = ((8 * p) + k2) from (nI_clamp (n := ((8 * p) + k2)) (by omega))]
                    obtain ⟨m236, hm236⟩ : ∃ xm, xm = (m2.sI (B 19) ((8 * p) + k2) (nI w2)) := ⟨_, rfl⟩
                    rw [← hm236]
                    have hVm236 : sp_V B m0 m236 D R l0 l1 0 n b p t e L w2 vq vm vl vs vA vE := by
                      rw [hm236]
                      exact hVm2.s19 (8 * p + k2) hw16
                    have qw1 : sp_rk B [19, 20, 34] m m236 := by
                      rw [hm236]
                      exact pw1.sI hVm2.r 19 _ _ (by decide) (by decide)
                    have qw2 : ∀ q, q < 8 * p → m236.aI (B 19) q = m.aI (B 19) q := by
                      rw [hm236]
                      intro q hq
                      rw [sp_sI_aI, if_neg (by omega)]; exact pw2 q hq
                    have qw5 : m236.aI (B 20) = m2.aI (B 20) := by
                      rw [hm236]
                      funext q
                      rw [sp_sI_aI, if_neg (fun z => hVm2.ne 20 19 (by decide) (by decide) (by decide) z.1)]
                    have qw6 : m236.aI (B 34) = m2.aI (B 34) := by
                      rw [hm236]
                      funext q
                      rw [sp_sI_aI, if_neg (fun z => hVm2.ne 34 19 (by decide) (by decide) (by decide) z.1)]
                    have qw7 : m236.aI (B 19) (8 * p + k2) = nI w2 := by
                      rw [hm236]
                      rw [sp_sI_aI, if_pos ⟨rfl, rfl⟩]
                    have qw8 : ∀ q, q < k2 → m236.aI (B 19) (8 * p + q) = m2.aI (B 19) (8 * p + q) := by
                      rw [hm236]
                      intro q hq
                      rw [sp_sI_aI, if_neg (by omega)]
                    clear hm236
                    refine sp_iconst X (pc := 237) (v := 0) dX12_path_237 (by decide) ?_
                    refine sp_istore X (pc := 238) (lv' := [(9, false, .int 0), (0, false, va_rf (some (B 0))), (1, false, .int (nI d)), (2, false, .int (nI k)), (7, false, .int (nI k2)), (8, false, .int (nI a))]) dX12_path_238  (by decide) rfl ?_
                    have loop240 : ∀ (dz : Nat) (i : Nat) (m3 : sp_M), sp_V B m0 m3 D R l0 l1 0 n b p t e L w2 vq vm vl vs vA vE → i ≤ 161 → sp_rk B [19, 20, 34] m m3 → m3.aI (B 19) = m236.aI (B 19) → (∀ q, q < 16 * (8 * p + k2) → m3.aI (B 20) q = m2.aI (B 20) q) → (∀ j, j < i → m3.aI (B 20) (16 * (8 * p + k2) + j) = D (a - 1 - w2 + j)) → m3.aI (B 34) = m2.aI (B 34) → w2 - i = dz → w 0 0 m3 240 [(0, false, va_rf (some (B 0))), (1, false, .int (nI d)), (2, false, .int (nI k)), (7, false, .int (nI k2)), (8, false, .int (nI a)), (9, false, .int (nI i))] [] := by
                      intro dz
                      induction dz using Nat.strongRecOn with
                      | ind dz ih =>
                        intro i m3 hVm3 hi0 rw1 rw2 rw3 rw4 rw6 hdz
                        refine sp_iload X (pc := 240) (x := nI i) dX12_path_240 rfl ?_
                        refine sp_aload_n X (pc := 242) (r := some (B 0)) dX12_path_242 rfl rfl ?_
                        refine sp_getfield X (pc := 243) (c := 13) (i := 35) (t := 0) (a := (B 0)) (v := .int (nI w2)) rfl hVm3.r.o (by decide) rfl (congrArg Value.int hVm3.cw) fl_Mo_107 dX12_path_243 ?_
                        refine sp_icmp_ge X (pc := 246) (tgt := 283) dX12_path_246 (by decide) (fun hb246 => ?_) (fun hb246 => ?_)
                        · have hi9 : w2 ≤ i := sp_nge hb246 (by omega) (by omega)
                          have hPW3 : ∀ q, q < k2 + 1 → sp_pc m3 B (8 * p + q) ((li.map (sp_nme D)).getD q []) := by
                            intro q hq
                            by_cases q9 : q = k2
                            · subst q9
                              rw [hget]
                              refine ⟨by rw [rw2, qw7, sp_nme_len], fun j hj => ?_⟩
                              rw [sp_nme_len] at hj
                              rw [rw4 j (by omega)]
                              exact (sp_seg_get D _ _ hj).symm
                            · have z := pw4 q (by omega)
                              have hl : ((li.map (sp_nme D)).getD q []).length ≤ 16 := by
                                rw [sp_mapD D li (by omega), sp_nme_len]
                                refine hl16 _ ?_
                                rw [List.getD_eq_getElem?_getD, List.getElem?_eq_getElem (by omega)]
                                exact List.getElem_mem _
                              exact ⟨by rw [rw2, qw8 q (by omega)]; exact z.1, fun j hj => by rw [rw3 _ (by omega)]; exact z.2 j hj⟩
                          have hPW2 : ∀ q, q < 8 * p → m3.aI (B 19) q = m.aI (B 19) q := fun q hq => by rw [rw2]; exact qw2 q hq
                          have hPW4 : ∀ q, q < 128 * p → m3.aI (B 20) q = m.aI (B 20) q := fun q hq => by rw [rw3 q (by omega)]; exact pw3 q hq
                          refine sp_iinc X (pc := 283) (v := (nI (k2 + 1))) (lv' := [(7, false, .int (nI (k2 + 1))), (0, false, va_rf (some (B 0))), (1, false, .int (nI d)), (2, false, .int (nI k)), (8, false, .int (nI a)), (9, false, .int (nI i))]) dX12_path_283 rfl ((sp_i1 k2)) (by decide) rfl ?_
                          refine sp_aload_n X (pc := 286) (r := some (B 0)) dX12_path_286 rfl rfl ?_
                          refine sp_iload X (pc := 287) (x := (nI a)) dX12_path_287 rfl ?_
                          refine sp_iload_n X (pc := 289) (x := nI d) dX12_path_289 rfl rfl ?_
                          refine sp_callV X (pc := 290) (mc := 0) (ms := 0) (b := (B 0)) (c := 13) (r := some (B 0)) (As := [.int (nI a), .int (nI d)]) (rest := []) (c_Mo_nextPart l G _ hVm3 (N := d) (f := a) (by omega) ha) ok_Mo_nextPart rfl hVm3.r.o (by decide) rfl lk_Mo_136 rfl rfl (Nat.zero_le _) (Nat.le_of_ble_eq_true rfl) (Nat.le_of_ble_eq_true rfl) (Nat.zero_le _) (Nat.zero_le _) dX12_path_290 (sp_kI fun v290 m290 hp290 => ?_)
                          obtain ⟨w290, hVm290, hwd290, hr290⟩ := hp290
                          refine sp_istore X (pc := 293) (lv' := [(8, false, .int v290), (7, false, .int (nI (k2 + 1))), (0, false, va_rf (some (B 0))), (1, false, .int (nI d)), (2, false, .int (nI k)), (9, false, .int (nI i))]) dX12_path_293  (by decide) rfl ?_
                          refine sp_goto X (pc := 295) (tgt := 213) dX12_path_295 (by decide) ?_
                          refine sp_pick X [2, 3, 4, 1, 0] (lv' := [(0, false, va_rf (some (B 0))), (1, false, .int (nI d)), (2, false, .int (nI k)), (7, false, .int (nI (k2 + 1))), (8, false, .int v290)]) rfl ?_
                          have e290 : ∀ a, a ≠ B 34 → m290.aI a = m3.aI a := hwd290.2
                          have hPW5 : sp_rk B [19, 20, 34] m m290 ∧ (∀ q, q < 8 * p → m290.aI (B 19) q = m.aI (B 19) q) ∧ (∀ q, q < 128 * p → m290.aI (B 20) q = m.aI (B 20) q) ∧ (∀ q, q < k2 + 1 → sp_pc m290 B (8 * p + q) ((li.map (sp_nme D)).getD q [])) := ⟨rw1.wd2 hwd290 hVm3.r (by decide), fun q hq => by rw [e290 _ (hVm3.ne 19 34 (by decide) (by decide) (by decide))]; exact hPW2 q hq, fun q hq => by rw [e290 _ (hVm3.ne 20 34 (by decide) (by decide) (by decide))]; exact hPW4 q hq, fun q hq => by
                            unfold sp_pc
                            rw [e290 _ (hVm3.ne 19 34 (by decide) (by decide) (by decide)), e290 _ (hVm3.ne 20 34 (by decide) (by decide) (by decide))]
                            exact hPW3 q hq⟩
                          have hdn9 : (dn ++ [(a, w2)]).length = k2 + 1 := by rw [List.length_append, hdn]; rfl
                          have hli9 : li = (dn ++ [(a, w2)]) ++ l' := by rw [hli, List.append_assoc]; rfl
                          rcases hr290 with ⟨q, hN⟩ | ⟨a2, q, hN, q1, q2, q3, q4⟩
                          · exact ihA _ (by omega) _ (k2 + 1) _ 0 (dn ++ [(a, w2)]) l' _ hVm290 hdn9 hli9 hPW5 (Or.inl ⟨q, hT.i0 hN, rfl⟩) rfl
                          · obtain ⟨l2, q5, q6⟩ := hT.i1 hN
                            exact ihA _ (by omega) _ (k2 + 1) _ (d + 2 - a2) (dn ++ [(a, w2)]) l' _ hVm290 hdn9 hli9 hPW5 (Or.inr ⟨a2, l2, q, q1, q3, q5, q6, q4, rfl⟩) rfl
                        · have hi : i < w2 := sp_nlt hb246 (by omega)
                          refine sp_aload_n X (pc := 249) (r := some (B 0)) dX12_path_249 rfl rfl ?_
                          refine sp_getfield X (pc := 250) (c := 13) (i := 20) (t := 2) (a := (B 0)) (v := va_rf (some (B 20))) rfl hVm3.r.o (by decide) rfl (congrArg va_rf hVm3.f20) fl_Mo_54 dX12_path_250 ?_
                          refine sp_bipush X (pc := 253) (v := 16) dX12_path_253 (by decide) ?_
                          refine sp_bipush X (pc := 255) (v := 8) dX12_path_255 (by decide) ?_
                          refine sp_aload_n X (pc := 257) (r := some (B 0)) dX12_path_257 rfl rfl ?_
                          refine sp_getfield X (pc := 258) (c := 13) (i := 17) (t := 0) (a := (B 0)) (v := .int (nI p)) rfl hVm3.r.o (by decide) rfl (congrArg Value.int hVm3.cp) fl_Mo_146 dX12_path_258 ?_
                          refine sp_imul X (pc := 261) dX12_path_261 ?_
                          rw [show (8 * (nI p)) = (nI (8 * p)) from (sp_mul 8 p)]
                          refine sp_iload X (pc := 262) (x := nI k2) dX12_path_262 rfl ?_
                          refine sp_iadd X (pc := 264) dX12_path_264 ?_
                          rw [show ((nI (8 * p)) + (nI k2)) = (nI ((8 * p) + k2)) from (nI_add (8 * p) k2)]
                          refine sp_imul X (pc := 265) dX12_path_265 ?_
                          rw [show (16 * (nI ((8 * p) + k2))) = (nI (16 * ((8 * p) + k2))) from (sp_mul 16 ((8 * p) + k2))]
                          refine sp_iload X (pc := 266) (x := nI i) dX12_path_266 rfl ?_
                          refine sp_iadd X (pc := 268) dX12_path_268 ?_
                          rw [show ((nI (16 * ((8 * p) + k2))) + (nI i)) = (nI ((16 * ((8 * p) + k2)) + i)) from (nI_add (16 * ((8 * p) + k2)) i)]
                          refine sp_aload_n X (pc := 269) (r := some (B 0)) dX12_path_269 rfl rfl ?_
                          refine sp_getfield X (pc := 270) (c := 13) (i := 34) (t := 2) (a := (B 0)) (v := va_rf (some (B 34))) rfl hVm3.r.o (by decide) rfl (congrArg va_rf hVm3.f34) fl_Mo_86 dX12_path_270 ?_
                          refine sp_iload X (pc := 273) (x := nI i) dX12_path_273 rfl ?_
                          refine sp_iaload X (pc := 275) (a := (B 34)) rfl (Or.inl hVm3.y34) (sp_in i hVm3.l34 (by omega) (by decide)) dX12_path_275 ?_
                          rw [show (m3.aI (B 34) (nI i).toNatClampNeg) = (m3.aI (B 34) i) from (congrArg _ (nI_clamp (n := i) (by omega)))]
                          rw [show (m3.aI (B 34) i) = (D (a - 1 - w2 + i)) from (by rw [rw6]; exact hct i hi)]
                          refine sp_iastore X (pc := 276) (a := (B 20)) rfl hVm3.y20 (sp_in ((16 * ((8 * p) + k2)) + i) hVm3.l20 (by omega) (by decide))  dX12_path_276 ?_
                          rw [show (nI ((16 * ((8 * p) + k2)) + i)).toNatClampNeg = ((16 * ((8 * p) + k2)) + i) from (nI_clamp (n := ((16 * ((8 * p) + k2)) + i)) (by omega))]
                          obtain ⟨m276, hm276⟩ : ∃ xm, xm = (m3.sI (B 20) ((16 * ((8 * p) + k2)) + i) (D (a - 1 - w2 + i))) := ⟨_, rfl⟩
                          rw [← hm276]
                          have hVm276 : sp_V B m0 m276 D R l0 l1 0 n b p t e L w2 vq vm vl vs vA vE := by
                            rw [hm276]
                            exact hVm3.sI 20 ((16 * ((8 * p) + k2)) + i) _ (by decide) (by decide) (Nat.zero_le _)
                          have sw1 : sp_rk B [19, 20, 34] m m276 := by
                            rw [hm276]
                            exact rw1.sI hVm3.r 20 _ _ (by decide) (by decide)
                          have sw2 : m276.aI (B 19) = m236.aI (B 19) := by
                            rw [hm276]
                            funext q
                            rw [sp_sI_aI, if_neg (fun z => hVm3.ne 19 20 (by decide) (by decide) (by decide) z.1)]; exact congrFun rw2 q
                          have sw3 : ∀ q, q < 16 * (8 * p + k2) → m276.aI (B 20) q = m2.aI (B 20) q := by
                            rw [hm276]
                            intro q hq
                            rw [sp_sI_aI, if_neg (by omega)]; exact rw3 q hq
                          have sw4 : ∀ j, j < i + 1 → m276.aI (B 20) (16 * (8 * p + k2) + j) = D (a - 1 - w2 + j) := by
                            rw [hm276]
                            intro j hj
                            rw [sp_sI_aI]
                            by_cases q : j = i
                            · subst q; rw [if_pos ⟨rfl, rfl⟩]
                            · rw [if_neg (by omega)]; exact rw4 j (by omega)
                          have sw6 : m276.aI (B 34) = m2.aI (B 34) := by
                            rw [hm276]
                            funext q
                            rw [sp_sI_aI, if_neg (fun z => hVm3.ne 34 20 (by decide) (by decide) (by decide) z.1)]; exact congrFun rw6 q
                          clear hm276
                          refine sp_iinc X (pc := 277) (v := (nI (i + 1))) (lv' := [(9, false, .int (nI (i + 1))), (0, false, va_rf (some (B 0))), (1, false, .int (nI d)), (2, false, .int (nI k)), (7, false, .int (nI k2)), (8, false, .int (nI a))]) dX12_path_277 rfl ((sp_i1 i)) (by decide) rfl ?_
                          refine sp_goto X (pc := 280) (tgt := 240) dX12_path_280 (by decide) ?_
                          refine sp_pick X [1, 2, 3, 4, 5, 0] (lv' := [(0, false, va_rf (some (B 0))), (1, false, .int (nI d)), (2, false, .int (nI k)), (7, false, .int (nI k2)), (8, false, .int (nI a)), (9, false, .int (nI (i + 1)))]) rfl ?_
                          exact ih _ (by omega) (i + 1) _ hVm276 (by omega) sw1 sw2 sw3 sw4 sw6 rfl
                    refine sp_pick X [1, 2, 3, 4, 5, 0] (lv' := [(0, false, va_rf (some (B 0))), (1, false, .int (nI d)), (2, false, .int (nI k)), (7, false, .int (nI k2)), (8, false, .int (nI a)), (9, false, .int 0)]) rfl ?_
                    exact loop240 _ 0 _ hVm236 (by omega) qw1 rfl (fun q _ => congrFun qw5 q) (fun j z => absurd z (Nat.not_lt_zero _)) qw6 rfl
              refine sp_pick X [2, 3, 4, 1, 0] (lv' := [(0, false, va_rf (some (B 0))), (1, false, .int (nI d)), (2, false, .int (nI k)), (7, false, .int 0), (8, false, .int v208)]) rfl ?_
              have e208 : ∀ a, a ≠ B 34 → m208.aI a = m.aI a := fun a ha => (hwd208.2 a ha).trans (wd1 a ha)
              have hPW0 : sp_rk B [19, 20, 34] m m208 ∧ (∀ q, q < 8 * p → m208.aI (B 19) q = m.aI (B 19) q) ∧ (∀ q, q < 128 * p → m208.aI (B 20) q = m.aI (B 20) q) ∧ (∀ q, q < 0 → sp_pc m208 B (8 * p + q) ((li.map (sp_nme D)).getD q [])) := ⟨fun k hk hl => e208 _ (fun z => hl (by rw [hVm.r.ap _ _ hk (by decide) z]; decide)), fun q _ => by rw [e208 _ (hVm.ne 19 34 (by decide) (by decide) (by decide))], fun q _ => by rw [e208 _ (hVm.ne 20 34 (by decide) (by decide) (by decide))], fun q z => absurd z (Nat.not_lt_zero _)⟩
              rcases hr208 with ⟨q, hN⟩ | ⟨a, q, hN, q1, q2, q3, q4⟩
              · exact loop213 _ _ 0 _ 0 [] li _ hVm208 rfl rfl hPW0 (Or.inl ⟨q, hTR.i0 hN, rfl⟩) rfl
              · obtain ⟨l', q5, q6⟩ := hTR.i1 hN
                exact loop213 _ _ 0 _ (d + 2 - a) [] li _ hVm208 rfl rfl hPW0 (Or.inr ⟨a, l', q, q1, q3, q5, q6, q4, rfl⟩) rfl
            · have hp60 : ¬ p < 60 := by
                have := sp_neq (b := 60) hb196 (by omega) (by decide)
                omega
              refine sp_bipush X (pc := 199) (v := (-6)) dX12_path_199 (by decide) ?_
              refine sp_ireturn X (pc := 201) dX12_path_201 rfl ⟨_, rfl, ?_⟩
              exact ⟨_, hUS, Or.inl ⟨Or.inr (Or.inr ⟨hne, hna, Or.inr ⟨hE0, hp60, rfl⟩⟩), _, hVm1, rk1⟩⟩
          · have hT8 : 8 < (li.map (sp_nme D)).length ∨ pu_T (li.map (sp_nme D)) := Or.inl (by rw [List.length_map, hkl]; exact sp_nlt (b := k) (a := 8) hb184 (by omega))
            refine sp_bipush X (pc := 187) (v := (-5)) dX12_path_187 (by decide) ?_
            refine sp_ireturn X (pc := 189) dX12_path_189 rfl ⟨_, rfl, ?_⟩
            exact ⟨_, hUS, Or.inl ⟨Or.inr (Or.inr ⟨hne, hna, Or.inl ⟨by decide, Or.inr (Or.inr (Or.inl ⟨rfl, hx1.eq hb162, hx2.eq hb170, hT8⟩))⟩⟩), _, hVm1, rk1⟩⟩
      · refine sp_bipush X (pc := 173) (v := (-4)) dX12_path_173 (by decide) ?_
        refine sp_ireturn X (pc := 175) dX12_path_175 rfl ⟨_, rfl, ?_⟩
        exact ⟨_, hUS, Or.inl ⟨Or.inr (Or.inr ⟨hne, hna, Or.inl ⟨by decide, Or.inr (Or.inl ⟨rfl, hx1.eq hb162, hx2.ne hb170⟩)⟩⟩), _, hVm1, rk1⟩⟩
    · refine sp_bipush X (pc := 165) (v := (-3)) dX12_path_165 (by decide) ?_
      refine sp_ireturn X (pc := 167) dX12_path_167 rfl ⟨_, rfl, ?_⟩
      exact ⟨_, hUS, Or.inl ⟨Or.inr (Or.inr ⟨hne, hna, Or.inl ⟨by decide, Or.inl ⟨rfl, hx1.ne hb162⟩⟩⟩), _, hVm1, rk1⟩⟩
  have cut122 : ∀ (k w1 : Nat) (x1 x2 g : Int32) (li : List (Nat × Nat)) (m1 : sp_M) (u : Int32), sp_V B m0 m1 D R l0 l1 0 n b p t e L w1 vq vm vl vs vA vE → (∀ a, a ≠ B 34 → m1.aI a = m.aI a) → li.length = k → sp_bo x1 (pu_U (li.map (sp_nme D))) → sp_bo x2 (pu_B R (li.map (sp_nme D))) → sp_bo g (pu_T (li.map (sp_nme D))) → sp_TR D R d 0 li → k ≤ 200 → sp_rk B [34] m m1 → sp_us D R d (li.map (sp_nme D)) → 1 ≤ k → ¬ li.map (sp_nme D) = [] → 0 < d → sp_bo u (pu_ltr (D 0)) → w 0 0 m1 122 [(0, false, va_rf (some (B 0))), (1, false, .int (nI d)), (2, false, .int (nI k)), (3, false, .int x1), (4, false, .int x2), (5, false, .int g)] [.int u] := by
    intro k w1 x1 x2 g li m1 u hVm1 wd1 hkl hx1 hx2 hg hTR hk200 rk1 hUS hk1 hne hd0 hu
    refine sp_istore X (pc := 122) (lv' := [(6, false, .int u), (0, false, va_rf (some (B 0))), (1, false, .int (nI d)), (2, false, .int (nI k)), (3, false, .int x1), (4, false, .int x2), (5, false, .int g)]) dX12_path_122  (by decide) rfl ?_
    refine sp_aload_n X (pc := 124) (r := some (B 0)) dX12_path_124 rfl rfl ?_
    refine sp_aload_n X (pc := 125) (r := some (B 0)) dX12_path_125 rfl rfl ?_
    refine sp_getfield X (pc := 126) (c := 13) (i := 1) (t := 2) (a := (B 0)) (v := va_rf (some (B 1))) rfl hVm1.r.o (by decide) rfl (congrArg va_rf hVm1.f1) fl_Mo_7 dX12_path_126 ?_
    refine sp_iconst X (pc := 129) (v := 0) dX12_path_129 (by decide) ?_
    refine sp_iaload X (pc := 130) (a := (B 1)) rfl (Or.inl hVm1.y1) (sp_in 0 hVm1.l1 (by omega) (by decide)) dX12_path_130 ?_
    rw [show (m1.aI (B 1) (Int32.toNatClampNeg 0)) = (m1.aI (B 1) 0) from (congrArg _ (nI_clamp (n := 0) (by omega)))]
    rw [show (m1.aI (B 1) 0) = (D 0) from (congrFun hVm1.dr _)]
    refine sp_callV X (pc := 131) (mc := 0) (ms := 0) (b := (B 0)) (c := 13) (r := some (B 0)) (As := [.int (D 0)]) (rest := []) (c_Mo_isParting l G _ hVm1) ok_Mo_isParting rfl hVm1.r.o (by decide) rfl lk_Mo_125 rfl rfl (Nat.zero_le _) (Nat.le_of_ble_eq_true rfl) (Nat.le_of_ble_eq_true rfl) (Nat.zero_le _) (Nat.zero_le _) dX12_path_131 (sp_kI fun v131 m131 hp131 => ?_)
    obtain ⟨hp131v, hp131⟩ := hp131; replace hp131 := (hp131).symm; subst hp131; replace hp131v := (hp131v).symm; subst hp131v
    refine sp_if_ne X (pc := 134) (tgt := 158) dX12_path_134 (by decide) (fun hb134 => ?_) (fun hb134 => ?_)
    · refine sp_bipush X (pc := 158) (v := (-2)) dX12_path_158 (by decide) ?_
      refine sp_ireturn X (pc := 160) dX12_path_160 rfl ⟨_, rfl, ?_⟩
      first
        | exact ⟨_, hUS, Or.inl ⟨Or.inr (Or.inl ⟨hne, Or.inl ⟨hd0, hb134⟩, rfl⟩), _, hVm1, rk1⟩⟩
        | exact ⟨_, hUS, Or.inl ⟨Or.inr (Or.inl ⟨hne, Or.inr ⟨by omega, hb150, hu.ne hb155⟩, rfl⟩), _, hVm1, rk1⟩⟩
    · refine sp_iload_n X (pc := 137) (x := nI d) dX12_path_137 rfl rfl ?_
      refine sp_iconst X (pc := 138) (v := 1) dX12_path_138 (by decide) ?_
      refine sp_icmp_le X (pc := 139) (tgt := 161) dX12_path_139 (by decide) (fun hb139 => ?_) (fun hb139 => ?_)
      · have hd1 : d ≤ 1 := sp_nge (b := d) (a := 1) hb139 (by omega) (by omega)
        refine sp_pick X [1, 2, 3, 4, 5, 6] (lv' := [(0, false, va_rf (some (B 0))), (1, false, .int (nI d)), (2, false, .int (nI k)), (3, false, .int x1), (4, false, .int x2), (5, false, .int g)]) rfl ?_
        exact cut161 k _ _ _ _ li _ hVm1 wd1 hkl hx1 hx2 hg hTR hk200 rk1 hUS hk1 hne (by
          rintro (z | z)
          · exact z.2 hb134
          · first | omega | exact hb150 z.2.1 | exact hu.eq hb155 z.2.2)
      · have hd1 : 1 < d := sp_nlt (b := d) (a := 1) hb139 (by omega)
        refine sp_aload_n X (pc := 142) (r := some (B 0)) dX12_path_142 rfl rfl ?_
        refine sp_getfield X (pc := 143) (c := 13) (i := 1) (t := 2) (a := (B 0)) (v := va_rf (some (B 1))) rfl hVm1.r.o (by decide) rfl (congrArg va_rf hVm1.f1) fl_Mo_7 dX12_path_143 ?_
        refine sp_iconst X (pc := 146) (v := 1) dX12_path_146 (by decide) ?_
        refine sp_iaload X (pc := 147) (a := (B 1)) rfl (Or.inl hVm1.y1) (sp_in 1 hVm1.l1 (by omega) (by decide)) dX12_path_147 ?_
        rw [show (m1.aI (B 1) (Int32.toNatClampNeg 1)) = (m1.aI (B 1) 1) from (congrArg _ (nI_clamp (n := 1) (by omega)))]
        rw [show (m1.aI (B 1) 1) = (D 1) from (congrFun hVm1.dr _)]
        refine sp_bipush X (pc := 148) (v := 58) dX12_path_148 (by decide) ?_
        refine sp_icmp_ne X (pc := 150) (tgt := 161) dX12_path_150 (by decide) (fun hb150 => ?_) (fun hb150 => ?_)
        · refine sp_pick X [1, 2, 3, 4, 5, 6] (lv' := [(0, false, va_rf (some (B 0))), (1, false, .int (nI d)), (2, false, .int (nI k)), (3, false, .int x1), (4, false, .int x2), (5, false, .int g)]) rfl ?_
          exact cut161 k _ _ _ _ li _ hVm1 wd1 hkl hx1 hx2 hg hTR hk200 rk1 hUS hk1 hne (by
            rintro (z | z)
            · exact z.2 hb134
            · first | omega | exact hb150 z.2.1 | exact hu.eq hb155 z.2.2)
        · refine sp_iload X (pc := 153) (x := u) dX12_path_153 rfl ?_
          refine sp_if_eq X (pc := 155) (tgt := 161) dX12_path_155 (by decide) (fun hb155 => ?_) (fun hb155 => ?_)
          · refine sp_pick X [1, 2, 3, 4, 5, 6] (lv' := [(0, false, va_rf (some (B 0))), (1, false, .int (nI d)), (2, false, .int (nI k)), (3, false, .int x1), (4, false, .int x2), (5, false, .int g)]) rfl ?_
            exact cut161 k _ _ _ _ li _ hVm1 wd1 hkl hx1 hx2 hg hTR hk200 rk1 hUS hk1 hne (by
              rintro (z | z)
              · exact z.2 hb134
              · first | omega | exact hb150 z.2.1 | exact hu.eq hb155 z.2.2)
          · refine sp_bipush X (pc := 158) (v := (-2)) dX12_path_158 (by decide) ?_
            refine sp_ireturn X (pc := 160) dX12_path_160 rfl ⟨_, rfl, ?_⟩
            first
              | exact ⟨_, hUS, Or.inl ⟨Or.inr (Or.inl ⟨hne, Or.inl ⟨hd0, hb134⟩, rfl⟩), _, hVm1, rk1⟩⟩
              | exact ⟨_, hUS, Or.inl ⟨Or.inr (Or.inl ⟨hne, Or.inr ⟨by omega, hb150, hu.ne hb155⟩, rfl⟩), _, hVm1, rk1⟩⟩
  have cut83 : ∀ (k w1 : Nat) (x1 x2 g : Int32) (li : List (Nat × Nat)) (m1 : sp_M), sp_V B m0 m1 D R l0 l1 0 n b p t e L w1 vq vm vl vs vA vE → (∀ a, a ≠ B 34 → m1.aI a = m.aI a) → li.length = k → sp_bo x1 (pu_U (li.map (sp_nme D))) → sp_bo x2 (pu_B R (li.map (sp_nme D))) → sp_bo g (pu_T (li.map (sp_nme D))) → sp_TR D R d 0 li → k ≤ 200 → w 0 0 m1 83 [(0, false, va_rf (some (B 0))), (1, false, .int (nI d)), (2, false, .int (nI k)), (3, false, .int x1), (4, false, .int x2), (5, false, .int g)] [] := by
    intro k w1 x1 x2 g li m1 hVm1 wd1 hkl hx1 hx2 hg hTR hk200
    have hUS : sp_us D R d (li.map (sp_nme D)) := ⟨li, hTR, rfl⟩
    have rk1 : sp_rk B [34] m m1 := fun k hk hl => wd1 _ (fun z => hl (by rw [hVm.r.ap _ _ hk (by decide) z]; exact List.mem_singleton.mpr rfl))
    refine sp_iload_n X (pc := 83) (x := nI k) dX12_path_83 rfl rfl ?_
    refine sp_if_ne X (pc := 84) (tgt := 89) dX12_path_84 (by decide) (fun hb84 => ?_) (fun hb84 => ?_)
    · have hk1 : 1 ≤ k := by
        have : k ≠ 0 := fun z => hb84 (by rw [z]; rfl)
        omega
      have hne : ¬ li.map (sp_nme D) = [] := fun z => by
        have := congrArg List.length z
        rw [List.length_map, hkl] at this
        exact absurd this (by simp; omega)
      have hd0 : 0 < d := by
        cases li with
        | nil => exact absurd rfl hne
        | cons x l =>
          obtain ⟨b, q, -⟩ := hTR.mem x List.mem_cons_self
          omega
      refine sp_aload_n X (pc := 89) (r := some (B 0)) dX12_path_89 rfl rfl ?_
      refine sp_getfield X (pc := 90) (c := 13) (i := 1) (t := 2) (a := (B 0)) (v := va_rf (some (B 1))) rfl hVm1.r.o (by decide) rfl (congrArg va_rf hVm1.f1) fl_Mo_7 dX12_path_90 ?_
      refine sp_iconst X (pc := 93) (v := 0) dX12_path_93 (by decide) ?_
      refine sp_iaload X (pc := 94) (a := (B 1)) rfl (Or.inl hVm1.y1) (sp_in 0 hVm1.l1 (by omega) (by decide)) dX12_path_94 ?_
      rw [show (m1.aI (B 1) (Int32.toNatClampNeg 0)) = (m1.aI (B 1) 0) from (congrArg _ (nI_clamp (n := 0) (by omega)))]
      rw [show (m1.aI (B 1) 0) = (D 0) from (congrFun hVm1.dr _)]
      refine sp_callS X (pc := 95) (mc := 0) (ms := 0) (As := [.int (D 0)]) (rest := []) (c_Mo_small l G _) ok_Mo_small lk_Mo_128 rfl rfl (Nat.zero_le _) (Nat.le_of_ble_eq_true rfl) (Nat.le_of_ble_eq_true rfl) (Nat.zero_le _) (Nat.zero_le _) dX12_path_95 (sp_kI fun v95 m95 hp95 => ?_)
      obtain ⟨hp95v, hp95⟩ := hp95; replace hp95 := (hp95).symm; subst hp95; replace hp95v := (hp95v).symm; subst hp95v
      refine sp_bipush X (pc := 98) (v := 97) dX12_path_98 (by decide) ?_
      refine sp_icmp_lt X (pc := 100) (tgt := 121) dX12_path_100 (by decide) (fun hb100 => ?_) (fun hb100 => ?_)
      · refine sp_iconst X (pc := 121) (v := 0) dX12_path_121 (by decide) ?_
        first
          | exact cut122 k _ _ _ _ li _ _ hVm1 wd1 hkl hx1 hx2 hg hTR hk200 rk1 hUS hk1 hne hd0 (sp_bo.t ((sp_ltr_sm _).mp ⟨Int32.not_lt.mp hb100, Int32.not_lt.mp hb114⟩))
          | exact cut122 k _ _ _ _ li _ _ hVm1 wd1 hkl hx1 hx2 hg hTR hk200 rk1 hUS hk1 hne hd0 (sp_bo.f (fun z => absurd hb100 (Int32.not_lt.mpr ((sp_ltr_sm _).mpr z).1)))
          | exact cut122 k _ _ _ _ li _ _ hVm1 wd1 hkl hx1 hx2 hg hTR hk200 rk1 hUS hk1 hne hd0 (sp_bo.f (fun z => absurd hb114 (Int32.not_lt.mpr ((sp_ltr_sm _).mpr z).2)))
      · refine sp_aload_n X (pc := 103) (r := some (B 0)) dX12_path_103 rfl rfl ?_
        refine sp_getfield X (pc := 104) (c := 13) (i := 1) (t := 2) (a := (B 0)) (v := va_rf (some (B 1))) rfl hVm1.r.o (by decide) rfl (congrArg va_rf hVm1.f1) fl_Mo_7 dX12_path_104 ?_
        refine sp_iconst X (pc := 107) (v := 0) dX12_path_107 (by decide) ?_
        refine sp_iaload X (pc := 108) (a := (B 1)) rfl (Or.inl hVm1.y1) (sp_in 0 hVm1.l1 (by omega) (by decide)) dX12_path_108 ?_
        rw [show (m1.aI (B 1) (Int32.toNatClampNeg 0)) = (m1.aI (B 1) 0) from (congrArg _ (nI_clamp (n := 0) (by omega)))]
        rw [show (m1.aI (B 1) 0) = (D 0) from (congrFun hVm1.dr _)]
        refine sp_callS X (pc := 109) (mc := 0) (ms := 0) (As := [.int (D 0)]) (rest := []) (c_Mo_small l G _) ok_Mo_small lk_Mo_128 rfl rfl (Nat.zero_le _) (Nat.le_of_ble_eq_true rfl) (Nat.le_of_ble_eq_true rfl) (Nat.zero_le _) (Nat.zero_le _) dX12_path_109 (sp_kI fun v109 m109 hp109 => ?_)
        obtain ⟨hp109v, hp109⟩ := hp109; replace hp109 := (hp109).symm; subst hp109; replace hp109v := (hp109v).symm; subst hp109v
        refine sp_bipush X (pc := 112) (v := 122) dX12_path_112 (by decide) ?_
        refine sp_icmp_gt X (pc := 114) (tgt := 121) dX12_path_114 (by decide) (fun hb114 => ?_) (fun hb114 => ?_)
        · refine sp_iconst X (pc := 121) (v := 0) dX12_path_121 (by decide) ?_
          first
            | exact cut122 k _ _ _ _ li _ _ hVm1 wd1 hkl hx1 hx2 hg hTR hk200 rk1 hUS hk1 hne hd0 (sp_bo.t ((sp_ltr_sm _).mp ⟨Int32.not_lt.mp hb100, Int32.not_lt.mp hb114⟩))
            | exact cut122 k _ _ _ _ li _ _ hVm1 wd1 hkl hx1 hx2 hg hTR hk200 rk1 hUS hk1 hne hd0 (sp_bo.f (fun z => absurd hb100 (Int32.not_lt.mpr ((sp_ltr_sm _).mpr z).1)))
            | exact cut122 k _ _ _ _ li _ _ hVm1 wd1 hkl hx1 hx2 hg hTR hk200 rk1 hUS hk1 hne hd0 (sp_bo.f (fun z => absurd hb114 (Int32.not_lt.mpr ((sp_ltr_sm _).mpr z).2)))
        · refine sp_iconst X (pc := 117) (v := 1) dX12_path_117 (by decide) ?_
          refine sp_goto X (pc := 118) (tgt := 122) dX12_path_118 (by decide) ?_
          first
            | exact cut122 k _ _ _ _ li _ _ hVm1 wd1 hkl hx1 hx2 hg hTR hk200 rk1 hUS hk1 hne hd0 (sp_bo.t ((sp_ltr_sm _).mp ⟨Int32.not_lt.mp hb100, Int32.not_lt.mp hb114⟩))
            | exact cut122 k _ _ _ _ li _ _ hVm1 wd1 hkl hx1 hx2 hg hTR hk200 rk1 hUS hk1 hne hd0 (sp_bo.f (fun z => absurd hb100 (Int32.not_lt.mpr ((sp_ltr_sm _).mpr z).1)))
            | exact cut122 k _ _ _ _ li _ _ hVm1 wd1 hkl hx1 hx2 hg hTR hk200 rk1 hUS hk1 hne hd0 (sp_bo.f (fun z => absurd hb114 (Int32.not_lt.mpr ((sp_ltr_sm _).mpr z).2)))
    · have hk0 : k = 0 := sp_neq (b := 0) hb84 (by omega) (by decide)
      refine sp_iconst X (pc := 87) (v := (-1)) dX12_path_87 (by decide) ?_
      refine sp_ireturn X (pc := 88) dX12_path_88 rfl ⟨_, rfl, ?_⟩
      exact ⟨_, hUS, Or.inl ⟨Or.inl ⟨by rw [List.length_eq_zero_iff.mp (hkl.trans hk0)]; rfl, rfl⟩, _, hVm1, rk1⟩⟩
  refine sp_aload_n X (pc := 0) (r := some (B 0)) dX12_path_0 rfl rfl ?_
  refine sp_getfield X (pc := 1) (c := 13) (i := 2) (t := 0) (a := (B 0)) (v := .int (nI d)) rfl hVm.r.o (by decide) rfl (congrArg Value.int hVm.cd) fl_Mo_122 dX12_path_1 ?_
  refine sp_istore_n X (pc := 4) (lv' := [(1, false, .int (nI d)), (0, false, va_rf (some (B 0)))]) dX12_path_4 rfl (by decide) rfl ?_
  refine sp_aload_n X (pc := 5) (r := some (B 0)) dX12_path_5 rfl rfl ?_
  refine sp_iconst X (pc := 6) (v := 0) dX12_path_6 (by decide) ?_
  refine sp_putI X (pc := 7) (c := 13) (i := 2) (q := 834) (a := (B 0)) rfl hVm.r.o (by decide) rfl rfl (Or.inl rfl) ⟨rfl, rfl⟩ fl_Mo_122 dX12_path_7 ?_
  obtain ⟨m7, hm7⟩ : ∃ xm, xm = (m.pI 834 (B 0) 0) := ⟨_, rfl⟩
  rw [← hm7]
  have hVm7 : sp_V B m0 m7 D R l0 l1 0 n b p t e L ws vq vm vl vs vA vE := by
    rw [hm7]
    exact hVm.pd 0 (by omega)
  have e7 : m7.aI = m.aI := by
    rw [hm7]
    rfl
  clear hm7
  refine sp_iconst X (pc := 10) (v := 0) dX12_path_10 (by decide) ?_
  refine sp_istore_n X (pc := 11) (lv' := [(2, false, .int 0), (1, false, .int (nI d)), (0, false, va_rf (some (B 0)))]) dX12_path_11 rfl (by decide) rfl ?_
  refine sp_iconst X (pc := 12) (v := 0) dX12_path_12 (by decide) ?_
  refine sp_istore_n X (pc := 13) (lv' := [(3, false, .int 0), (2, false, .int 0), (1, false, .int (nI d)), (0, false, va_rf (some (B 0)))]) dX12_path_13 rfl (by decide) rfl ?_
  refine sp_iconst X (pc := 14) (v := 0) dX12_path_14 (by decide) ?_
  refine sp_istore X (pc := 15) (lv' := [(4, false, .int 0), (3, false, .int 0), (2, false, .int 0), (1, false, .int (nI d)), (0, false, va_rf (some (B 0)))]) dX12_path_15  (by decide) rfl ?_
  refine sp_iconst X (pc := 17) (v := 0) dX12_path_17 (by decide) ?_
  refine sp_istore X (pc := 18) (lv' := [(5, false, .int 0), (4, false, .int 0), (3, false, .int 0), (2, false, .int 0), (1, false, .int (nI d)), (0, false, va_rf (some (B 0)))]) dX12_path_18  (by decide) rfl ?_
  refine sp_aload_n X (pc := 20) (r := some (B 0)) dX12_path_20 rfl rfl ?_
  refine sp_iconst X (pc := 21) (v := 0) dX12_path_21 (by decide) ?_
  refine sp_iload_n X (pc := 22) (x := (nI d)) dX12_path_22 rfl rfl ?_
  refine sp_callV X (pc := 23) (mc := 0) (ms := 0) (b := (B 0)) (c := 13) (r := some (B 0)) (As := [.int 0, .int (nI d)]) (rest := []) (c_Mo_nextPart l G _ hVm7 (N := d) (f := 0) (by omega) (by omega)) ok_Mo_nextPart rfl hVm7.r.o (by decide) rfl lk_Mo_136 rfl rfl (Nat.zero_le _) (Nat.le_of_ble_eq_true rfl) (Nat.le_of_ble_eq_true rfl) (Nat.zero_le _) (Nat.zero_le _) dX12_path_23 (sp_kI fun v23 m23 hp23 => ?_)
  obtain ⟨w23, hVm23, hwd23, hr23⟩ := hp23
  refine sp_istore X (pc := 26) (lv' := [(6, false, .int v23), (5, false, .int 0), (4, false, .int 0), (3, false, .int 0), (2, false, .int 0), (1, false, .int (nI d)), (0, false, va_rf (some (B 0)))]) dX12_path_26  (by decide) rfl ?_
  have loop28 : ∀ (dz : Nat) (v : Int32) (k w1 z : Nat) (x1 x2 g : Int32) (ls : List (Nat × Nat)) (m1 : sp_M), sp_V B m0 m1 D R l0 l1 0 n b p t e L w1 vq vm vl vs vA vE → (∀ a, a ≠ B 34 → m1.aI a = m.aI a) → ls.length = k → sp_bo x1 (pu_U (ls.map (sp_nme D))) → sp_bo x2 (pu_B R (ls.map (sp_nme D))) → sp_bo g (pu_T (ls.map (sp_nme D))) → ((v = -1 ∧ sp_TR D R d 0 ls ∧ z = 0) ∨ ∃ a, v = nI a ∧ 1 ≤ w1 ∧ a ≤ d + 1 ∧ (∀ l', sp_TR D R d a l' → sp_TR D R d 0 (ls ++ (a, w1) :: l')) ∧ (∀ i, i < w1 → m1.aI (B 34) i = D (a - 1 - w1 + i)) ∧ z = d + 2 - a) → k + z ≤ 200 → z = dz → w 0 0 m1 28 [(0, false, va_rf (some (B 0))), (1, false, .int (nI d)), (2, false, .int (nI k)), (3, false, .int x1), (4, false, .int x2), (5, false, .int g), (6, false, .int v)] [] := by
    intro dz
    induction dz using Nat.strongRecOn with
    | ind dz ih =>
      intro v k w1 z x1 x2 g ls m1 hVm1 wd1 hkl hx1 hx2 hg hv hkz hdz
      refine sp_iload X (pc := 28) (x := v) dX12_path_28 rfl ?_
      refine sp_if_lt X (pc := 30) (tgt := 83) dX12_path_30 (by decide) (fun hb30 => ?_) (fun hb30 => ?_)
      · have hTR : sp_TR D R d 0 ls := by
          rcases hv with ⟨-, q, -⟩ | ⟨a, q1, -, q3, -⟩
          · exact q
          · rw [q1] at hb30; exact absurd hb30 (nI_pos (by omega))
        refine sp_pick X [0, 1, 2, 3, 4, 5] (lv' := [(0, false, va_rf (some (B 0))), (1, false, .int (nI d)), (2, false, .int (nI k)), (3, false, .int x1), (4, false, .int x2), (5, false, .int g)]) rfl ?_
        exact cut83 k _ _ _ _ ls _ hVm1 wd1 hkl hx1 hx2 hg hTR (by omega)
      · have hv2 : ∃ a, v = nI a ∧ 1 ≤ w1 ∧ a ≤ d + 1 ∧ (∀ l', sp_TR D R d a l' → sp_TR D R d 0 (ls ++ (a, w1) :: l')) ∧ (∀ i, i < w1 → m1.aI (B 34) i = D (a - 1 - w1 + i)) ∧ z = d + 2 - a := by
          rcases hv with ⟨q, -, -⟩ | q
          · rw [q] at hb30; exact absurd (by decide) hb30
          · exact q
        obtain ⟨a, rfl, hw1, ha, hT, hct, hz⟩ := hv2
        have bw1 := hVm1.hw
        have hwu : sp_wu m1 B w1 = sp_nme D (a, w1) := sp_wu_eq (sp_nme_len D _) (fun i hi => by
          rw [hct i hi]
          exact (sp_seg_get D _ _ hi).symm)
        refine sp_iinc X (pc := 33) (v := (nI (k + 1))) (lv' := [(2, false, .int (nI (k + 1))), (0, false, va_rf (some (B 0))), (1, false, .int (nI d)), (3, false, .int x1), (4, false, .int x2), (5, false, .int g), (6, false, .int (nI a))]) dX12_path_33 rfl ((sp_i1 k)) (by decide) rfl ?_
        refine sp_iload_n X (pc := 36) (x := x1) dX12_path_36 rfl rfl ?_
        refine sp_aload_n X (pc := 37) (r := some (B 0)) dX12_path_37 rfl rfl ?_
        refine sp_callV X (pc := 38) (mc := 0) (ms := 0) (b := (B 0)) (c := 13) (r := some (B 0)) (As := []) (rest := [.int x1]) (c_Mo_isUp l G _ hVm1) ok_Mo_isUp rfl hVm1.r.o (by decide) rfl lk_Mo_139 rfl rfl (by simp [sp_cat_rf, sp_cat_i, sp_cat_l]) (Nat.le_of_ble_eq_true rfl) (Nat.le_of_ble_eq_true rfl) (Nat.zero_le _) (Nat.zero_le _) dX12_path_38 (sp_kI fun v38 m38 hp38 => ?_)
        obtain ⟨hp38, hp38m⟩ := hp38; replace hp38m := (hp38m).symm; subst hp38m
        rw [hwu] at hp38
        refine sp_ior X (pc := 41) dX12_path_41 ?_
        refine sp_istore_n X (pc := 42) (lv' := [(3, false, .int (x1 ||| v38)), (2, false, .int (nI (k + 1))), (0, false, va_rf (some (B 0))), (1, false, .int (nI d)), (4, false, .int x2), (5, false, .int g), (6, false, .int (nI a))]) dX12_path_42 rfl (by decide) rfl ?_
        refine sp_iload X (pc := 43) (x := x2) dX12_path_43 rfl ?_
        refine sp_aload_n X (pc := 45) (r := some (B 0)) dX12_path_45 rfl rfl ?_
        refine sp_callV X (pc := 46) (mc := 0) (ms := 0) (b := (B 0)) (c := 13) (r := some (B 0)) (As := []) (rest := [.int x2]) (c_Mo_isBad l G _ hVm1 hw1) ok_Mo_isBad rfl hVm1.r.o (by decide) rfl lk_Mo_143 rfl rfl (by simp [sp_cat_rf, sp_cat_i, sp_cat_l]) (Nat.le_of_ble_eq_true rfl) (Nat.le_of_ble_eq_true rfl) (Nat.zero_le _) (Nat.zero_le _) dX12_path_46 (sp_kI fun v46 m46 hp46 => ?_)
        obtain ⟨hp46, hp46m⟩ := hp46; replace hp46m := (hp46m).symm; subst hp46m
        rw [hwu] at hp46
        refine sp_ior X (pc := 49) dX12_path_49 ?_
        refine sp_istore X (pc := 50) (lv' := [(4, false, .int (x2 ||| v46)), (3, false, .int (x1 ||| v38)), (2, false, .int (nI (k + 1))), (0, false, va_rf (some (B 0))), (1, false, .int (nI d)), (5, false, .int g), (6, false, .int (nI a))]) dX12_path_50  (by decide) rfl ?_
        refine sp_iload X (pc := 52) (x := g) dX12_path_52 rfl ?_
        refine sp_aload_n X (pc := 54) (r := some (B 0)) dX12_path_54 rfl rfl ?_
        refine sp_getfield X (pc := 55) (c := 13) (i := 35) (t := 0) (a := (B 0)) (v := .int (nI w1)) rfl hVm1.r.o (by decide) rfl (congrArg Value.int hVm1.cw) fl_Mo_107 dX12_path_55 ?_
        refine sp_bipush X (pc := 58) (v := 16) dX12_path_58 (by decide) ?_
        refine sp_icmp_le X (pc := 60) (tgt := 67) dX12_path_60 (by decide) (fun hb60 => ?_) (fun hb60 => ?_)
        · have hg2 : w1 ≤ 16 := sp_nge (b := w1) (a := 16) hb60 (by omega) (by omega)
          refine sp_iconst X (pc := 67) (v := 0) dX12_path_67 (by decide) ?_
          refine sp_ior X (pc := 68) dX12_path_68 ?_
          refine sp_istore X (pc := 69) (lv' := [(5, false, .int (g ||| 0)), (4, false, .int (x2 ||| v46)), (3, false, .int (x1 ||| v38)), (2, false, .int (nI (k + 1))), (0, false, va_rf (some (B 0))), (1, false, .int (nI d)), (6, false, .int (nI a))]) dX12_path_69  (by decide) rfl ?_
          refine sp_aload_n X (pc := 71) (r := some (B 0)) dX12_path_71 rfl rfl ?_
          refine sp_iload X (pc := 72) (x := (nI a)) dX12_path_72 rfl ?_
          refine sp_iload_n X (pc := 74) (x := nI d) dX12_path_74 rfl rfl ?_
          refine sp_callV X (pc := 75) (mc := 0) (ms := 0) (b := (B 0)) (c := 13) (r := some (B 0)) (As := [.int (nI a), .int (nI d)]) (rest := []) (c_Mo_nextPart l G _ hVm1 (N := d) (f := a) (by omega) ha) ok_Mo_nextPart rfl hVm1.r.o (by decide) rfl lk_Mo_136 rfl rfl (Nat.zero_le _) (Nat.le_of_ble_eq_true rfl) (Nat.le_of_ble_eq_true rfl) (Nat.zero_le _) (Nat.zero_le _) dX12_path_75 (sp_kI fun v75 m75 hp75 => ?_)
          obtain ⟨w75, hVm75, hwd75, hr75⟩ := hp75
          refine sp_istore X (pc := 78) (lv' := [(6, false, .int v75), (5, false, .int (g ||| 0)), (4, false, .int (x2 ||| v46)), (3, false, .int (x1 ||| v38)), (2, false, .int (nI (k + 1))), (0, false, va_rf (some (B 0))), (1, false, .int (nI d))]) dX12_path_78  (by decide) rfl ?_
          refine sp_goto X (pc := 80) (tgt := 28) dX12_path_80 (by decide) ?_
          refine sp_pick X [5, 6, 4, 3, 2, 1, 0] (lv' := [(0, false, va_rf (some (B 0))), (1, false, .int (nI d)), (2, false, .int (nI (k + 1))), (3, false, .int (x1 ||| v38)), (4, false, .int (x2 ||| v46)), (5, false, .int (g ||| 0)), (6, false, .int v75)]) rfl ?_
          have hm9 : (ls ++ [(a, w1)]).map (sp_nme D) = ls.map (sp_nme D) ++ [sp_nme D (a, w1)] := by rw [List.map_append]; rfl
          have hU9 : sp_bo (x1 ||| v38) (pu_U ((ls ++ [(a, w1)]).map (sp_nme D))) := by rw [hm9]; exact (hx1.or hp38).iff pu_exap.symm
          have hB9 : sp_bo (x2 ||| v46) (pu_B R ((ls ++ [(a, w1)]).map (sp_nme D))) := by rw [hm9]; exact (hx2.or hp46).iff pu_exap.symm
          have hG9 : sp_bo (g ||| 0) (pu_T ((ls ++ [(a, w1)]).map (sp_nme D))) := by
            rw [hm9]
            first
              | exact (hg.or (sp_bo.t (p := 16 < (sp_nme D (a, w1)).length) (by rw [sp_nme_len]; exact hg2))).iff pu_exap.symm
              | exact (hg.or (sp_bo.f (p := 16 < (sp_nme D (a, w1)).length) (by rw [sp_nme_len]; exact Nat.not_lt.mpr hg2))).iff pu_exap.symm
          have hLn : (ls ++ [(a, w1)]).length = k + 1 := by rw [List.length_append, hkl]; rfl
          rcases hr75 with ⟨q, hN⟩ | ⟨a2, q, hN, q1, q2, q3, q4⟩
          · exact ih _ (by omega) _ (k + 1) _ 0 _ _ _ (ls ++ [(a, w1)]) _ hVm75 (fun a ha => (hwd75.2 a ha).trans (wd1 a ha)) hLn hU9 hB9 hG9 (Or.inl ⟨q, hT [] (sp_TR.nil hN), rfl⟩) (by omega) rfl
          · exact ih _ (by omega) _ (k + 1) _ (d + 2 - a2) _ _ _ (ls ++ [(a, w1)]) _ hVm75 (fun a ha => (hwd75.2 a ha).trans (wd1 a ha)) hLn hU9 hB9 hG9 (Or.inr ⟨a2, q, q1, q3, fun l' h => by rw [List.append_assoc]; exact hT ((a2, w75) :: l') (sp_TR.cons hN h), q4, rfl⟩) (by omega) rfl
        · have hg2 : 16 < w1 := sp_nlt (b := w1) (a := 16) hb60 (by omega)
          refine sp_iconst X (pc := 63) (v := 1) dX12_path_63 (by decide) ?_
          refine sp_goto X (pc := 64) (tgt := 68) dX12_path_64 (by decide) ?_
          refine sp_ior X (pc := 68) dX12_path_68 ?_
          refine sp_istore X (pc := 69) (lv' := [(5, false, .int (g ||| 1)), (4, false, .int (x2 ||| v46)), (3, false, .int (x1 ||| v38)), (2, false, .int (nI (k + 1))), (0, false, va_rf (some (B 0))), (1, false, .int (nI d)), (6, false, .int (nI a))]) dX12_path_69  (by decide) rfl ?_
          refine sp_aload_n X (pc := 71) (r := some (B 0)) dX12_path_71 rfl rfl ?_
          refine sp_iload X (pc := 72) (x := (nI a)) dX12_path_72 rfl ?_
          refine sp_iload_n X (pc := 74) (x := nI d) dX12_path_74 rfl rfl ?_
          refine sp_callV X (pc := 75) (mc := 0) (ms := 0) (b := (B 0)) (c := 13) (r := some (B 0)) (As := [.int (nI a), .int (nI d)]) (rest := []) (c_Mo_nextPart l G _ hVm1 (N := d) (f := a) (by omega) ha) ok_Mo_nextPart rfl hVm1.r.o (by decide) rfl lk_Mo_136 rfl rfl (Nat.zero_le _) (Nat.le_of_ble_eq_true rfl) (Nat.le_of_ble_eq_true rfl) (Nat.zero_le _) (Nat.zero_le _) dX12_path_75 (sp_kI fun v75 m75 hp75 => ?_)
          obtain ⟨w75, hVm75, hwd75, hr75⟩ := hp75
          refine sp_istore X (pc := 78) (lv' := [(6, false, .int v75), (5, false, .int (g ||| 1)), (4, false, .int (x2 ||| v46)), (3, false, .int (x1 ||| v38)), (2, false, .int (nI (k + 1))), (0, false, va_rf (some (B 0))), (1, false, .int (nI d))]) dX12_path_78  (by decide) rfl ?_
          refine sp_goto X (pc := 80) (tgt := 28) dX12_path_80 (by decide) ?_
          refine sp_pick X [5, 6, 4, 3, 2, 1, 0] (lv' := [(0, false, va_rf (some (B 0))), (1, false, .int (nI d)), (2, false, .int (nI (k + 1))), (3, false, .int (x1 ||| v38)), (4, false, .int (x2 ||| v46)), (5, false, .int (g ||| 1)), (6, false, .int v75)]) rfl ?_
          have hm9 : (ls ++ [(a, w1)]).map (sp_nme D) = ls.map (sp_nme D) ++ [sp_nme D (a, w1)] := by rw [List.map_append]; rfl
          have hU9 : sp_bo (x1 ||| v38) (pu_U ((ls ++ [(a, w1)]).map (sp_nme D))) := by rw [hm9]; exact (hx1.or hp38).iff pu_exap.symm
          have hB9 : sp_bo (x2 ||| v46) (pu_B R ((ls ++ [(a, w1)]).map (sp_nme D))) := by rw [hm9]; exact (hx2.or hp46).iff pu_exap.symm
          have hG9 : sp_bo (g ||| 1) (pu_T ((ls ++ [(a, w1)]).map (sp_nme D))) := by
            rw [hm9]
            first
              | exact (hg.or (sp_bo.t (p := 16 < (sp_nme D (a, w1)).length) (by rw [sp_nme_len]; exact hg2))).iff pu_exap.symm
              | exact (hg.or (sp_bo.f (p := 16 < (sp_nme D (a, w1)).length) (by rw [sp_nme_len]; exact Nat.not_lt.mpr hg2))).iff pu_exap.symm
          have hLn : (ls ++ [(a, w1)]).length = k + 1 := by rw [List.length_append, hkl]; rfl
          rcases hr75 with ⟨q, hN⟩ | ⟨a2, q, hN, q1, q2, q3, q4⟩
          · exact ih _ (by omega) _ (k + 1) _ 0 _ _ _ (ls ++ [(a, w1)]) _ hVm75 (fun a ha => (hwd75.2 a ha).trans (wd1 a ha)) hLn hU9 hB9 hG9 (Or.inl ⟨q, hT [] (sp_TR.nil hN), rfl⟩) (by omega) rfl
          · exact ih _ (by omega) _ (k + 1) _ (d + 2 - a2) _ _ _ (ls ++ [(a, w1)]) _ hVm75 (fun a ha => (hwd75.2 a ha).trans (wd1 a ha)) hLn hU9 hB9 hG9 (Or.inr ⟨a2, q, q1, q3, fun l' h => by rw [List.append_assoc]; exact hT ((a2, w75) :: l') (sp_TR.cons hN h), q4, rfl⟩) (by omega) rfl
  refine sp_pick X [6, 5, 4, 3, 2, 1, 0] (lv' := [(0, false, va_rf (some (B 0))), (1, false, .int (nI d)), (2, false, .int 0), (3, false, .int 0), (4, false, .int 0), (5, false, .int 0), (6, false, .int v23)]) rfl ?_
  have f1 : sp_bo 0 (pu_U (([] : List (Nat × Nat)).map (sp_nme D))) := sp_bo.f (by rintro ⟨u, z, -⟩; cases z)
  have f2 : sp_bo 0 (pu_B R (([] : List (Nat × Nat)).map (sp_nme D))) := sp_bo.f (by rintro ⟨u, z, -⟩; cases z)
  have f3 : sp_bo 0 (pu_T (([] : List (Nat × Nat)).map (sp_nme D))) := sp_bo.f (by rintro ⟨u, z, -⟩; cases z)
  rcases hr23 with ⟨q, hN⟩ | ⟨a, q, hN, q1, q2, q3, q4⟩
  · exact loop28 _ _ 0 _ 0 _ _ _ [] _ hVm23 (fun a ha => (hwd23.2 a ha).trans (congrFun e7 a)) rfl f1 f2 f3 (Or.inl ⟨q, sp_TR.nil hN, rfl⟩) (by omega) rfl
  · exact loop28 _ _ 0 _ (d + 2 - a) _ _ _ [] _ hVm23 (fun a ha => (hwd23.2 a ha).trans (congrFun e7 a)) rfl f1 f2 f3 (Or.inr ⟨a, q, q1, q3, fun l' h => sp_TR.cons hN h, q4, rfl⟩) (by omega) rfl
