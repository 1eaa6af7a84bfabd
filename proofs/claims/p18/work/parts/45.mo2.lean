
def sp_wd (B : Nat → Nat) (m m' : sp_M) : Prop := (∀ k, k ≠ 867 → m'.fI k (B 0) = m.fI k (B 0)) ∧ (∀ a, a ≠ B 34 → m'.aI a = m.aI a)
theorem sp_wd.refl (B : Nat → Nat) (m : sp_M) : sp_wd B m m := ⟨fun _ _ => rfl, fun _ _ => rfl⟩
theorem sp_wd.pI {B : Nat → Nat} {m m1 : sp_M} (h : sp_wd B m m1) (v : Int32) : sp_wd B m (m1.pI 867 (B 0) v) :=
  ⟨fun k hk => by rw [sp_pI_fI, if_neg (fun z => hk z.1)]; exact h.1 k hk, h.2⟩
theorem sp_wd.sI {B : Nat → Nat} {m m1 : sp_M} (h : sp_wd B m m1) (j : Nat) (v : Int32) : sp_wd B m (m1.sI (B 34) j v) :=
  ⟨h.1, fun a ha => by rw [← h.2 a ha]; funext i; rw [sp_sI_aI, if_neg (fun z => ha z.1)]⟩
theorem sp_wd.trans {B : Nat → Nat} {m m1 m2 : sp_M} (h : sp_wd B m m1) (h' : sp_wd B m1 m2) : sp_wd B m m2 :=
  ⟨fun k hk => (h'.1 k hk).trans (h.1 k hk), fun a ha => (h'.2 a ha).trans (h.2 a ha)⟩
theorem sp_rk.wd {B : Nat → Nat} {m m1 : sp_M} (h : sp_wd B m m1) (hR : sp_R0 m B) : sp_rk B [34] m m1 := fun k hk hl => h.2 _ (fun z => hl (by rw [hR.ap _ _ hk (by decide) z]; exact List.mem_singleton.mpr rfl))
theorem sp_rk.wd2 {B : Nat → Nat} {l : List Nat} {m m1 m2 : sp_M} (h : sp_rk B l m m1) (hw : sp_wd B m1 m2) (hR : sp_R0 m1 B) (hl : 34 ∈ l) : sp_rk B l m m2 := h.trans ((sp_rk.wd hw hR).mono (fun k hk => by rw [List.mem_singleton.mp hk]; exact hl))
theorem sp_and01 {x y : Int32} (hx : sp_b01 x) (hy : sp_b01 y) : sp_b01 (x &&& y) := by
  rcases hx with rfl | rfl <;> rcases hy with rfl | rfl <;> first | exact Or.inl (by decide) | exact Or.inr (by decide)
set_option maxRecDepth 20000 in
theorem c_Mo_part (l : Launch) (G : sp_G) (m : sp_M) {B : Nat → Nat} {m0 : sp_M} {D : Nat → Int32} {R : Int32} {l0 l1 : Int64} {d n b p t e L ws : Nat} {vq vm vl : Int32} {vs : Int64} {vA vE : Nat → Int64} (hVm : sp_V B m0 m D R l0 l1 d n b p t e L ws vq vm vl vs vA vE) {PT : Nat → List (List Int32)} (hP : sp_mP m B p PT) (hPl : pu_P p PT) {x y z : Int32} : sp_C l G M_Mo_part 0 0 [.ref (B 0), .int x, .int y, .int z] m (sp_oI fun v m' => pu_part v p PT x y z ∧ m' = m) := by
  refine sp_enter (lv0 := [(0, false, va_rf (some (B 0))), (1, false, .int x), (2, false, .int y), (3, false, .int z)]) "SafePathsModel" false rfl (by decide) (fun h => by cases h) (Nat.le_of_ble_eq_true rfl) rfl ?_
  intro w X
  have bd := hVm.hd
  have bn := hVm.hn
  have bb := hVm.hb
  have bp := hVm.hp
  have bt := hVm.ht
  have be := hVm.he
  have bw := hVm.hw
  have bL := hVm.hL
  refine sp_aload_n X (pc := 0) (r := some (B 0)) dX12_part_0 rfl rfl ?_
  refine sp_iload_n X (pc := 1) (x := x) dX12_part_1 rfl rfl ?_
  refine sp_callV X (pc := 2) (mc := 0) (ms := 0) (b := (B 0)) (c := 13) (r := some (B 0)) (As := [.int x]) (rest := []) (c_Mo_isPath l G _ hVm) ok_Mo_isPath rfl hVm.r.o (by decide) rfl lk_Mo_149 rfl rfl (Nat.zero_le _) (Nat.le_of_ble_eq_true rfl) (Nat.le_of_ble_eq_true rfl) (Nat.zero_le _) (Nat.zero_le _) dX12_part_2 (sp_kI fun v2 m2 hp2 => ?_)
  obtain ⟨hp2, hp2m⟩ := hp2; replace hp2m := (hp2m).symm; subst hp2m
  refine sp_if_eq X (pc := 5) (tgt := 45) dX12_part_5 (by decide) (fun hb5 => ?_) (fun hb5 => ?_)
  · have hno : ¬ ∃ j, j < p ∧ x = nI j := fun ⟨j, q1, q2⟩ => hp2.eq hb5 ⟨j, q2, q1⟩
    refine sp_iconst X (pc := 45) (v := 0) dX12_part_45 (by decide) ?_
    refine sp_istore X (pc := 46) (lv' := [(4, false, .int 0), (0, false, va_rf (some (B 0))), (1, false, .int x), (2, false, .int y), (3, false, .int z)]) dX12_part_46  (by decide) rfl ?_
    refine sp_iload X (pc := 48) (x := 0) dX12_part_48 rfl ?_
    refine sp_if_eq X (pc := 50) (tgt := 72) dX12_part_50 (by decide) (fun hb50 => ?_) (fun hb50 => ?_)
    · refine sp_iconst X (pc := 72) (v := (-1)) dX12_part_72 (by decide) ?_
      refine sp_ireturn X (pc := 73) dX12_part_73 rfl ⟨_, rfl, ?_⟩
      first
        | exact ⟨pu_part.mk hVm.hp hPl hj rfl (Or.inl ⟨k, hk, rfl, rfl⟩) (Or.inl ⟨i, hi, rfl, rfl⟩), rfl⟩
        | exact ⟨pu_part.no hno rfl, rfl⟩
        | exact ⟨pu_part.mk hVm.hp hPl hj rfl (Or.inr ⟨hny, rfl⟩) (Or.inr ⟨fun ⟨i, q, _⟩ => absurd q (Nat.not_lt_zero _), rfl⟩), rfl⟩
        | exact ⟨pu_part.mk hVm.hp hPl hj rfl (Or.inl ⟨k, hk, rfl, rfl⟩) (Or.inr ⟨hnz, rfl⟩), rfl⟩
    · first | exact absurd hb50 (by decide) | exact absurd (by decide) hb50
  · obtain ⟨j, rfl, hj⟩ := hp2.ne hb5
    have zj := hP j hj
    have lj := hPl j hj
    refine sp_iload_n X (pc := 8) (x := y) dX12_part_8 rfl rfl ?_
    refine sp_if_lt X (pc := 9) (tgt := 45) dX12_part_9 (by decide) (fun hb9 => ?_) (fun hb9 => ?_)
    · have hny : ¬ ∃ k, k < (PT j).length ∧ y = nI k := fun ⟨k, q1, q2⟩ => by rw [q2] at hb9; exact nI_pos (by omega) hb9
      refine sp_iconst X (pc := 45) (v := 0) dX12_part_45 (by decide) ?_
      refine sp_istore X (pc := 46) (lv' := [(4, false, .int 0), (0, false, va_rf (some (B 0))), (1, false, .int (nI j)), (2, false, .int y), (3, false, .int z)]) dX12_part_46  (by decide) rfl ?_
      refine sp_iload X (pc := 48) (x := 0) dX12_part_48 rfl ?_
      refine sp_if_eq X (pc := 50) (tgt := 72) dX12_part_50 (by decide) (fun hb50 => ?_) (fun hb50 => ?_)
      · refine sp_iconst X (pc := 72) (v := (-1)) dX12_part_72 (by decide) ?_
        refine sp_ireturn X (pc := 73) dX12_part_73 rfl ⟨_, rfl, ?_⟩
        first
          | exact ⟨pu_part.mk hVm.hp hPl hj rfl (Or.inl ⟨k, hk, rfl, rfl⟩) (Or.inl ⟨i, hi, rfl, rfl⟩), rfl⟩
          | exact ⟨pu_part.no hno rfl, rfl⟩
          | exact ⟨pu_part.mk hVm.hp hPl hj rfl (Or.inr ⟨hny, rfl⟩) (Or.inr ⟨fun ⟨i, q, _⟩ => absurd q (Nat.not_lt_zero _), rfl⟩), rfl⟩
          | exact ⟨pu_part.mk hVm.hp hPl hj rfl (Or.inl ⟨k, hk, rfl, rfl⟩) (Or.inr ⟨hnz, rfl⟩), rfl⟩
      · first | exact absurd hb50 (by decide) | exact absurd (by decide) hb50
    · refine sp_iload_n X (pc := 12) (x := y) dX12_part_12 rfl rfl ?_
      refine sp_aload_n X (pc := 13) (r := some (B 0)) dX12_part_13 rfl rfl ?_
      refine sp_getfield X (pc := 14) (c := 13) (i := 18) (t := 2) (a := (B 0)) (v := va_rf (some (B 18))) rfl hVm.r.o (by decide) rfl (congrArg va_rf hVm.f18) fl_Mo_48 dX12_part_14 ?_
      refine sp_iload_n X (pc := 17) (x := (nI j)) dX12_part_17 rfl rfl ?_
      refine sp_iaload X (pc := 18) (a := (B 18)) rfl (Or.inl hVm.y18) (sp_in j hVm.l18 (by omega) (by decide)) dX12_part_18 ?_
      rw [show (m.aI (B 18) (nI j).toNatClampNeg) = (m.aI (B 18) j) from (congrArg _ (nI_clamp (n := j) (by omega)))]
      rw [show (m.aI (B 18) j) = (nI (PT j).length) from zj.1]
      refine sp_icmp_ge X (pc := 19) (tgt := 45) dX12_part_19 (by decide) (fun hb19 => ?_) (fun hb19 => ?_)
      · have hny : ¬ ∃ k, k < (PT j).length ∧ y = nI k := fun ⟨k, q1, q2⟩ => by rw [q2] at hb19; have := sp_nge hb19 (by omega) (by omega); omega
        refine sp_iconst X (pc := 45) (v := 0) dX12_part_45 (by decide) ?_
        refine sp_istore X (pc := 46) (lv' := [(4, false, .int 0), (0, false, va_rf (some (B 0))), (1, false, .int (nI j)), (2, false, .int y), (3, false, .int z)]) dX12_part_46  (by decide) rfl ?_
        refine sp_iload X (pc := 48) (x := 0) dX12_part_48 rfl ?_
        refine sp_if_eq X (pc := 50) (tgt := 72) dX12_part_50 (by decide) (fun hb50 => ?_) (fun hb50 => ?_)
        · refine sp_iconst X (pc := 72) (v := (-1)) dX12_part_72 (by decide) ?_
          refine sp_ireturn X (pc := 73) dX12_part_73 rfl ⟨_, rfl, ?_⟩
          first
            | exact ⟨pu_part.mk hVm.hp hPl hj rfl (Or.inl ⟨k, hk, rfl, rfl⟩) (Or.inl ⟨i, hi, rfl, rfl⟩), rfl⟩
            | exact ⟨pu_part.no hno rfl, rfl⟩
            | exact ⟨pu_part.mk hVm.hp hPl hj rfl (Or.inr ⟨hny, rfl⟩) (Or.inr ⟨fun ⟨i, q, _⟩ => absurd q (Nat.not_lt_zero _), rfl⟩), rfl⟩
            | exact ⟨pu_part.mk hVm.hp hPl hj rfl (Or.inl ⟨k, hk, rfl, rfl⟩) (Or.inr ⟨hnz, rfl⟩), rfl⟩
        · first | exact absurd hb50 (by decide) | exact absurd (by decide) hb50
      · obtain ⟨k, hk, rfl⟩ := sp_idx (s := (PT j).length) (by omega) hb9 hb19
        have zk := zj.2 k hk
        have lk := lj.2.2 k hk
        refine sp_iload_n X (pc := 22) (x := z) dX12_part_22 rfl rfl ?_
        refine sp_if_lt X (pc := 23) (tgt := 45) dX12_part_23 (by decide) (fun hb23 => ?_) (fun hb23 => ?_)
        · have hnz : ¬ ∃ i, i < ((PT j).getD k []).length ∧ z = nI i := fun ⟨i, q1, q2⟩ => by rw [q2] at hb23; exact nI_pos (by omega) hb23
          refine sp_iconst X (pc := 45) (v := 0) dX12_part_45 (by decide) ?_
          refine sp_istore X (pc := 46) (lv' := [(4, false, .int 0), (0, false, va_rf (some (B 0))), (1, false, .int (nI j)), (2, false, .int (nI k)), (3, false, .int z)]) dX12_part_46  (by decide) rfl ?_
          refine sp_iload X (pc := 48) (x := 0) dX12_part_48 rfl ?_
          refine sp_if_eq X (pc := 50) (tgt := 72) dX12_part_50 (by decide) (fun hb50 => ?_) (fun hb50 => ?_)
          · refine sp_iconst X (pc := 72) (v := (-1)) dX12_part_72 (by decide) ?_
            refine sp_ireturn X (pc := 73) dX12_part_73 rfl ⟨_, rfl, ?_⟩
            first
              | exact ⟨pu_part.mk hVm.hp hPl hj rfl (Or.inl ⟨k, hk, rfl, rfl⟩) (Or.inl ⟨i, hi, rfl, rfl⟩), rfl⟩
              | exact ⟨pu_part.no hno rfl, rfl⟩
              | exact ⟨pu_part.mk hVm.hp hPl hj rfl (Or.inr ⟨hny, rfl⟩) (Or.inr ⟨fun ⟨i, q, _⟩ => absurd q (Nat.not_lt_zero _), rfl⟩), rfl⟩
              | exact ⟨pu_part.mk hVm.hp hPl hj rfl (Or.inl ⟨k, hk, rfl, rfl⟩) (Or.inr ⟨hnz, rfl⟩), rfl⟩
          · first | exact absurd hb50 (by decide) | exact absurd (by decide) hb50
        · refine sp_iload_n X (pc := 26) (x := z) dX12_part_26 rfl rfl ?_
          refine sp_aload_n X (pc := 27) (r := some (B 0)) dX12_part_27 rfl rfl ?_
          refine sp_getfield X (pc := 28) (c := 13) (i := 19) (t := 2) (a := (B 0)) (v := va_rf (some (B 19))) rfl hVm.r.o (by decide) rfl (congrArg va_rf hVm.f19) fl_Mo_51 dX12_part_28 ?_
          refine sp_bipush X (pc := 31) (v := 8) dX12_part_31 (by decide) ?_
          refine sp_iload_n X (pc := 33) (x := (nI j)) dX12_part_33 rfl rfl ?_
          refine sp_imul X (pc := 34) dX12_part_34 ?_
          rw [show (8 * (nI j)) = (nI (8 * j)) from (sp_mul 8 j)]
          refine sp_iload_n X (pc := 35) (x := (nI k)) dX12_part_35 rfl rfl ?_
          refine sp_iadd X (pc := 36) dX12_part_36 ?_
          rw [show ((nI (8 * j)) + (nI k)) = (nI ((8 * j) + k)) from (nI_add (8 * j) k)]
          refine sp_iaload X (pc := 37) (a := (B 19)) rfl (Or.inl hVm.y19) (sp_in ((8 * j) + k) hVm.l19 (by omega) (by decide)) dX12_part_37 ?_
          rw [show (m.aI (B 19) (nI ((8 * j) + k)).toNatClampNeg) = (m.aI (B 19) ((8 * j) + k)) from (congrArg _ (nI_clamp (n := ((8 * j) + k)) (by omega)))]
          rw [show (m.aI (B 19) ((8 * j) + k)) = (nI ((PT j).getD k []).length) from zk.1]
          refine sp_icmp_ge X (pc := 38) (tgt := 45) dX12_part_38 (by decide) (fun hb38 => ?_) (fun hb38 => ?_)
          · have hnz : ¬ ∃ i, i < ((PT j).getD k []).length ∧ z = nI i := fun ⟨i, q1, q2⟩ => by rw [q2] at hb38; have := sp_nge hb38 (by omega) (by omega); omega
            refine sp_iconst X (pc := 45) (v := 0) dX12_part_45 (by decide) ?_
            refine sp_istore X (pc := 46) (lv' := [(4, false, .int 0), (0, false, va_rf (some (B 0))), (1, false, .int (nI j)), (2, false, .int (nI k)), (3, false, .int z)]) dX12_part_46  (by decide) rfl ?_
            refine sp_iload X (pc := 48) (x := 0) dX12_part_48 rfl ?_
            refine sp_if_eq X (pc := 50) (tgt := 72) dX12_part_50 (by decide) (fun hb50 => ?_) (fun hb50 => ?_)
            · refine sp_iconst X (pc := 72) (v := (-1)) dX12_part_72 (by decide) ?_
              refine sp_ireturn X (pc := 73) dX12_part_73 rfl ⟨_, rfl, ?_⟩
              first
                | exact ⟨pu_part.mk hVm.hp hPl hj rfl (Or.inl ⟨k, hk, rfl, rfl⟩) (Or.inl ⟨i, hi, rfl, rfl⟩), rfl⟩
                | exact ⟨pu_part.no hno rfl, rfl⟩
                | exact ⟨pu_part.mk hVm.hp hPl hj rfl (Or.inr ⟨hny, rfl⟩) (Or.inr ⟨fun ⟨i, q, _⟩ => absurd q (Nat.not_lt_zero _), rfl⟩), rfl⟩
                | exact ⟨pu_part.mk hVm.hp hPl hj rfl (Or.inl ⟨k, hk, rfl, rfl⟩) (Or.inr ⟨hnz, rfl⟩), rfl⟩
            · first | exact absurd hb50 (by decide) | exact absurd (by decide) hb50
          · obtain ⟨i, hi, rfl⟩ := sp_idx (s := ((PT j).getD k []).length) (by omega) hb23 hb38
            refine sp_iconst X (pc := 41) (v := 1) dX12_part_41 (by decide) ?_
            refine sp_goto X (pc := 42) (tgt := 46) dX12_part_42 (by decide) ?_
            refine sp_istore X (pc := 46) (lv' := [(4, false, .int 1), (0, false, va_rf (some (B 0))), (1, false, .int (nI j)), (2, false, .int (nI k)), (3, false, .int (nI i))]) dX12_part_46  (by decide) rfl ?_
            refine sp_iload X (pc := 48) (x := 1) dX12_part_48 rfl ?_
            refine sp_if_eq X (pc := 50) (tgt := 72) dX12_part_50 (by decide) (fun hb50 => ?_) (fun hb50 => ?_)
            · first | exact absurd hb50 (by decide) | exact absurd (by decide) hb50
            · refine sp_aload_n X (pc := 53) (r := some (B 0)) dX12_part_53 rfl rfl ?_
              refine sp_getfield X (pc := 54) (c := 13) (i := 20) (t := 2) (a := (B 0)) (v := va_rf (some (B 20))) rfl hVm.r.o (by decide) rfl (congrArg va_rf hVm.f20) fl_Mo_54 dX12_part_54 ?_
              refine sp_bipush X (pc := 57) (v := 16) dX12_part_57 (by decide) ?_
              refine sp_bipush X (pc := 59) (v := 8) dX12_part_59 (by decide) ?_
              refine sp_iload_n X (pc := 61) (x := (nI j)) dX12_part_61 rfl rfl ?_
              refine sp_imul X (pc := 62) dX12_part_62 ?_
              rw [show (8 * (nI j)) = (nI (8 * j)) from (sp_mul 8 j)]
              refine sp_iload_n X (pc := 63) (x := (nI k)) dX12_part_63 rfl rfl ?_
              refine sp_iadd X (pc := 64) dX12_part_64 ?_
              rw [show ((nI (8 * j)) + (nI k)) = (nI ((8 * j) + k)) from (nI_add (8 * j) k)]
              refine sp_imul X (pc := 65) dX12_part_65 ?_
              rw [show (16 * (nI ((8 * j) + k))) = (nI (16 * ((8 * j) + k))) from (sp_mul 16 ((8 * j) + k))]
              refine sp_iload_n X (pc := 66) (x := (nI i)) dX12_part_66 rfl rfl ?_
              refine sp_iadd X (pc := 67) dX12_part_67 ?_
              rw [show ((nI (16 * ((8 * j) + k))) + (nI i)) = (nI ((16 * ((8 * j) + k)) + i)) from (nI_add (16 * ((8 * j) + k)) i)]
              refine sp_iaload X (pc := 68) (a := (B 20)) rfl (Or.inl hVm.y20) (sp_in ((16 * ((8 * j) + k)) + i) hVm.l20 (by omega) (by decide)) dX12_part_68 ?_
              rw [show (m.aI (B 20) (nI ((16 * ((8 * j) + k)) + i)).toNatClampNeg) = (m.aI (B 20) ((16 * ((8 * j) + k)) + i)) from (congrArg _ (nI_clamp (n := ((16 * ((8 * j) + k)) + i)) (by omega)))]
              rw [show (m.aI (B 20) ((16 * ((8 * j) + k)) + i)) = (((PT j).getD k []).getD i 0) from (zk.2 i hi)]
              refine sp_goto X (pc := 69) (tgt := 73) dX12_part_69 (by decide) ?_
              refine sp_ireturn X (pc := 73) dX12_part_73 rfl ⟨_, rfl, ?_⟩
              first
                | exact ⟨pu_part.mk hVm.hp hPl hj rfl (Or.inl ⟨k, hk, rfl, rfl⟩) (Or.inl ⟨i, hi, rfl, rfl⟩), rfl⟩
                | exact ⟨pu_part.no hno rfl, rfl⟩
                | exact ⟨pu_part.mk hVm.hp hPl hj rfl (Or.inr ⟨hny, rfl⟩) (Or.inr ⟨fun ⟨i, q, _⟩ => absurd q (Nat.not_lt_zero _), rfl⟩), rfl⟩
                | exact ⟨pu_part.mk hVm.hp hPl hj rfl (Or.inl ⟨k, hk, rfl, rfl⟩) (Or.inr ⟨hnz, rfl⟩), rfl⟩
set_option maxRecDepth 20000 in
theorem c_Mo_meets (l : Launch) (G : sp_G) (m : sp_M) {B : Nat → Nat} {m0 : sp_M} {D : Nat → Int32} {R : Int32} {l0 l1 : Int64} {d n b p t e L ws : Nat} {vq vm vl : Int32} {vs : Int64} {vA vE : Nat → Int64} (hVm : sp_V B m0 m D R l0 l1 d n b p t e L ws vq vm vl vs vA vE) {PT : Nat → List (List Int32)} (hP : sp_mP m B p PT) (hPl : pu_P p PT) {x y : Int32} : sp_C l G M_Mo_meets 0 0 [.ref (B 0), .int x, .int y] m (sp_oI fun v m' => pu_meets v R p PT x y ∧ m' = m) := by
  refine sp_enter (lv0 := [(0, false, va_rf (some (B 0))), (1, false, .int x), (2, false, .int y)]) "SafePathsModel" false rfl (by decide) (fun h => by cases h) (Nat.le_of_ble_eq_true rfl) rfl ?_
  intro w X
  have bd := hVm.hd
  have bn := hVm.hn
  have bb := hVm.hb
  have bp := hVm.hp
  have bt := hVm.ht
  have be := hVm.he
  have bw := hVm.hw
  have bL := hVm.hL
  have cut194 : ∀ (u : Int32) (a c : Nat), a < p → c < p → x = nI a → y = nI c → sp_bo u (pu_mt R (PT a) (PT c)) → w 0 0 m 194 [(3, false, .int u)] [] := by
    intro u a c ha hc hxa hyc hu2
    refine sp_iload_n X (pc := 194) (x := u) dX12_meets_194 rfl rfl ?_
    refine sp_if_eq X (pc := 195) (tgt := 202) dX12_meets_195 (by decide) (fun hb195 => ?_) (fun hb195 => ?_)
    · refine sp_iconst X (pc := 202) (v := 0) dX12_meets_202 (by decide) ?_
      refine sp_ireturn X (pc := 203) dX12_meets_203 rfl ⟨_, rfl, ?_⟩
      first
        | exact ⟨Or.inr ⟨a, c, ha, hxa, hc, hyc, sp_bo.t (hu2.ne hb195)⟩, rfl⟩
        | exact ⟨Or.inr ⟨a, c, ha, hxa, hc, hyc, sp_bo.f (hu2.eq hb195)⟩, rfl⟩
    · refine sp_iconst X (pc := 198) (v := 1) dX12_meets_198 (by decide) ?_
      refine sp_goto X (pc := 199) (tgt := 203) dX12_meets_199 (by decide) ?_
      refine sp_ireturn X (pc := 203) dX12_meets_203 rfl ⟨_, rfl, ?_⟩
      first
        | exact ⟨Or.inr ⟨a, c, ha, hxa, hc, hyc, sp_bo.t (hu2.ne hb195)⟩, rfl⟩
        | exact ⟨Or.inr ⟨a, c, ha, hxa, hc, hyc, sp_bo.f (hu2.eq hb195)⟩, rfl⟩
  refine sp_aload_n X (pc := 0) (r := some (B 0)) dX12_meets_0 rfl rfl ?_
  refine sp_iload_n X (pc := 1) (x := x) dX12_meets_1 rfl rfl ?_
  refine sp_callV X (pc := 2) (mc := 0) (ms := 0) (b := (B 0)) (c := 13) (r := some (B 0)) (As := [.int x]) (rest := []) (c_Mo_isPath l G _ hVm) ok_Mo_isPath rfl hVm.r.o (by decide) rfl lk_Mo_149 rfl rfl (Nat.zero_le _) (Nat.le_of_ble_eq_true rfl) (Nat.le_of_ble_eq_true rfl) (Nat.zero_le _) (Nat.zero_le _) dX12_meets_2 (sp_kI fun v2 m2 hp2 => ?_)
  obtain ⟨hp2, hp2m⟩ := hp2; replace hp2m := (hp2m).symm; subst hp2m
  refine sp_if_eq X (pc := 5) (tgt := 16) dX12_meets_5 (by decide) (fun hb5 => ?_) (fun hb5 => ?_)
  · have hno : ¬ (∃ j, j < p ∧ x = nI j) ∨ ¬ (∃ j, j < p ∧ y = nI j) := Or.inl (fun ⟨j, q1, q2⟩ => hp2.eq hb5 ⟨j, q2, q1⟩)
    refine sp_bipush X (pc := 16) (v := (-7)) dX12_meets_16 (by decide) ?_
    refine sp_ireturn X (pc := 18) dX12_meets_18 rfl ⟨_, rfl, ?_⟩
    exact ⟨Or.inl ⟨hno, rfl⟩, rfl⟩
  · obtain ⟨a, rfl, ha⟩ := hp2.ne hb5
    have za := hP a ha
    have la := hPl a ha
    refine sp_aload_n X (pc := 8) (r := some (B 0)) dX12_meets_8 rfl rfl ?_
    refine sp_iload_n X (pc := 9) (x := y) dX12_meets_9 rfl rfl ?_
    refine sp_callV X (pc := 10) (mc := 0) (ms := 0) (b := (B 0)) (c := 13) (r := some (B 0)) (As := [.int y]) (rest := []) (c_Mo_isPath l G _ hVm) ok_Mo_isPath rfl hVm.r.o (by decide) rfl lk_Mo_149 rfl rfl (Nat.zero_le _) (Nat.le_of_ble_eq_true rfl) (Nat.le_of_ble_eq_true rfl) (Nat.zero_le _) (Nat.zero_le _) dX12_meets_10 (sp_kI fun v10 m10 hp10 => ?_)
    obtain ⟨hp10, hp10m⟩ := hp10; replace hp10m := (hp10m).symm; subst hp10m
    refine sp_if_ne X (pc := 13) (tgt := 19) dX12_meets_13 (by decide) (fun hb13 => ?_) (fun hb13 => ?_)
    · obtain ⟨c, rfl, hc⟩ := hp10.ne hb13
      have zc := hP c hc
      have lc := hPl c hc
      refine sp_aload_n X (pc := 19) (r := some (B 0)) dX12_meets_19 rfl rfl ?_
      refine sp_getfield X (pc := 20) (c := 13) (i := 18) (t := 2) (a := (B 0)) (v := va_rf (some (B 18))) rfl hVm.r.o (by decide) rfl (congrArg va_rf hVm.f18) fl_Mo_48 dX12_meets_20 ?_
      refine sp_iload_n X (pc := 23) (x := (nI a)) dX12_meets_23 rfl rfl ?_
      refine sp_iaload X (pc := 24) (a := (B 18)) rfl (Or.inl hVm.y18) (sp_in a hVm.l18 (by omega) (by decide)) dX12_meets_24 ?_
      rw [show (m.aI (B 18) (nI a).toNatClampNeg) = (m.aI (B 18) a) from (congrArg _ (nI_clamp (n := a) (by omega)))]
      rw [show (m.aI (B 18) a) = (nI (PT a).length) from za.1]
      refine sp_aload_n X (pc := 25) (r := some (B 0)) dX12_meets_25 rfl rfl ?_
      refine sp_getfield X (pc := 26) (c := 13) (i := 18) (t := 2) (a := (B 0)) (v := va_rf (some (B 18))) rfl hVm.r.o (by decide) rfl (congrArg va_rf hVm.f18) fl_Mo_48 dX12_meets_26 ?_
      refine sp_iload_n X (pc := 29) (x := (nI c)) dX12_meets_29 rfl rfl ?_
      refine sp_iaload X (pc := 30) (a := (B 18)) rfl (Or.inl hVm.y18) (sp_in c hVm.l18 (by omega) (by decide)) dX12_meets_30 ?_
      rw [show (m.aI (B 18) (nI c).toNatClampNeg) = (m.aI (B 18) c) from (congrArg _ (nI_clamp (n := c) (by omega)))]
      rw [show (m.aI (B 18) c) = (nI (PT c).length) from zc.1]
      refine sp_icmp_ne X (pc := 31) (tgt := 38) dX12_meets_31 (by decide) (fun hb31 => ?_) (fun hb31 => ?_)
      · have hlen : ¬ (PT a).length = (PT c).length := fun z => hb31 (by rw [z])
        refine sp_iconst X (pc := 38) (v := 0) dX12_meets_38 (by decide) ?_
        refine sp_istore_n X (pc := 39) (lv' := [(3, false, .int 0), (0, false, va_rf (some (B 0))), (1, false, .int (nI a)), (2, false, .int (nI c))]) dX12_meets_39 rfl (by decide) rfl ?_
        refine sp_iconst X (pc := 40) (v := 0) dX12_meets_40 (by decide) ?_
        refine sp_istore X (pc := 41) (lv' := [(4, false, .int 0), (3, false, .int 0), (0, false, va_rf (some (B 0))), (1, false, .int (nI a)), (2, false, .int (nI c))]) dX12_meets_41  (by decide) rfl ?_
        have loop43 : ∀ (dz : Nat) (u : Int32) (k : Nat), k ≤ (PT a).length → sp_bo u ((PT a).length = (PT c).length ∧ ∀ q, q < k → pu_al R ((PT a).getD q []) ((PT c).getD q [])) → (PT a).length - k = dz → w 0 0 m 43 [(0, false, va_rf (some (B 0))), (1, false, .int (nI a)), (2, false, .int (nI c)), (3, false, .int u), (4, false, .int (nI k))] [] := by
          intro dz
          induction dz using Nat.strongRecOn with
          | ind dz ih =>
            intro u k hk hu hdz
            have ihA := ih
            refine sp_iload_n X (pc := 43) (x := u) dX12_meets_43 rfl rfl ?_
            refine sp_if_eq X (pc := 44) (tgt := 194) dX12_meets_44 (by decide) (fun hb44 => ?_) (fun hb44 => ?_)
            · have hu0 := hu.eq hb44
              refine sp_pick X [3] (lv' := [(3, false, .int u)]) rfl ?_
              first
                | exact cut194 _ a c ha hc rfl rfl (by rw [hb44]; exact sp_bo.f (fun z => hu0 ⟨z.1, fun q hq => z.2 q (by omega)⟩))
                | exact cut194 _ a c ha hc rfl rfl (hu.iff ⟨fun z => ⟨z.1, fun q hq => z.2 q (by omega)⟩, fun z => ⟨z.1, fun q hq => z.2 q (by omega)⟩⟩)
            · have hu0 := hu.ne hb44
              refine sp_iload X (pc := 47) (x := nI k) dX12_meets_47 rfl ?_
              refine sp_aload_n X (pc := 49) (r := some (B 0)) dX12_meets_49 rfl rfl ?_
              refine sp_getfield X (pc := 50) (c := 13) (i := 18) (t := 2) (a := (B 0)) (v := va_rf (some (B 18))) rfl hVm.r.o (by decide) rfl (congrArg va_rf hVm.f18) fl_Mo_48 dX12_meets_50 ?_
              refine sp_iload_n X (pc := 53) (x := nI a) dX12_meets_53 rfl rfl ?_
              refine sp_iaload X (pc := 54) (a := (B 18)) rfl (Or.inl hVm.y18) (sp_in a hVm.l18 (by omega) (by decide)) dX12_meets_54 ?_
              rw [show (m.aI (B 18) (nI a).toNatClampNeg) = (m.aI (B 18) a) from (congrArg _ (nI_clamp (n := a) (by omega)))]
              rw [show (m.aI (B 18) a) = (nI (PT a).length) from za.1]
              refine sp_icmp_ge X (pc := 55) (tgt := 194) dX12_meets_55 (by decide) (fun hb55 => ?_) (fun hb55 => ?_)
              · have hkq : (PT a).length ≤ k := sp_nge hb55 (by omega) (by omega)
                refine sp_pick X [3] (lv' := [(3, false, .int u)]) rfl ?_
                first
                  | exact cut194 _ a c ha hc rfl rfl (by rw [hb44]; exact sp_bo.f (fun z => hu0 ⟨z.1, fun q hq => z.2 q (by omega)⟩))
                  | exact cut194 _ a c ha hc rfl rfl (hu.iff ⟨fun z => ⟨z.1, fun q hq => z.2 q (by omega)⟩, fun z => ⟨z.1, fun q hq => z.2 q (by omega)⟩⟩)
              · have hkq : k < (PT a).length := sp_nlt hb55 (by omega)
                have xa := za.2 k hkq
                have xc := zc.2 k (by have := hu0.1; omega)
                have ya := la.2.2 k hkq
                have yc := lc.2.2 k (by have := hu0.1; omega)
                refine sp_bipush X (pc := 58) (v := 8) dX12_meets_58 (by decide) ?_
                refine sp_iload_n X (pc := 60) (x := nI a) dX12_meets_60 rfl rfl ?_
                refine sp_imul X (pc := 61) dX12_meets_61 ?_
                rw [show (8 * (nI a)) = (nI (8 * a)) from (sp_mul 8 a)]
                refine sp_iload X (pc := 62) (x := nI k) dX12_meets_62 rfl ?_
                refine sp_iadd X (pc := 64) dX12_meets_64 ?_
                rw [show ((nI (8 * a)) + (nI k)) = (nI ((8 * a) + k)) from (nI_add (8 * a) k)]
                refine sp_istore X (pc := 65) (lv' := [(5, false, .int (nI ((8 * a) + k))), (0, false, va_rf (some (B 0))), (1, false, .int (nI a)), (2, false, .int (nI c)), (3, false, .int u), (4, false, .int (nI k))]) dX12_meets_65  (by decide) rfl ?_
                refine sp_bipush X (pc := 67) (v := 8) dX12_meets_67 (by decide) ?_
                refine sp_iload_n X (pc := 69) (x := nI c) dX12_meets_69 rfl rfl ?_
                refine sp_imul X (pc := 70) dX12_meets_70 ?_
                rw [show (8 * (nI c)) = (nI (8 * c)) from (sp_mul 8 c)]
                refine sp_iload X (pc := 71) (x := nI k) dX12_meets_71 rfl ?_
                refine sp_iadd X (pc := 73) dX12_meets_73 ?_
                rw [show ((nI (8 * c)) + (nI k)) = (nI ((8 * c) + k)) from (nI_add (8 * c) k)]
                refine sp_istore X (pc := 74) (lv' := [(6, false, .int (nI ((8 * c) + k))), (5, false, .int (nI ((8 * a) + k))), (0, false, va_rf (some (B 0))), (1, false, .int (nI a)), (2, false, .int (nI c)), (3, false, .int u), (4, false, .int (nI k))]) dX12_meets_74  (by decide) rfl ?_
                refine sp_aload_n X (pc := 76) (r := some (B 0)) dX12_meets_76 rfl rfl ?_
                refine sp_getfield X (pc := 77) (c := 13) (i := 19) (t := 2) (a := (B 0)) (v := va_rf (some (B 19))) rfl hVm.r.o (by decide) rfl (congrArg va_rf hVm.f19) fl_Mo_51 dX12_meets_77 ?_
                refine sp_iload X (pc := 80) (x := (nI ((8 * a) + k))) dX12_meets_80 rfl ?_
                refine sp_iaload X (pc := 82) (a := (B 19)) rfl (Or.inl hVm.y19) (sp_in ((8 * a) + k) hVm.l19 (by omega) (by decide)) dX12_meets_82 ?_
                rw [show (m.aI (B 19) (nI ((8 * a) + k)).toNatClampNeg) = (m.aI (B 19) ((8 * a) + k)) from (congrArg _ (nI_clamp (n := ((8 * a) + k)) (by omega)))]
                rw [show (m.aI (B 19) ((8 * a) + k)) = (nI ((PT a).getD k []).length) from xa.1]
                refine sp_aload_n X (pc := 83) (r := some (B 0)) dX12_meets_83 rfl rfl ?_
                refine sp_getfield X (pc := 84) (c := 13) (i := 19) (t := 2) (a := (B 0)) (v := va_rf (some (B 19))) rfl hVm.r.o (by decide) rfl (congrArg va_rf hVm.f19) fl_Mo_51 dX12_meets_84 ?_
                refine sp_iload X (pc := 87) (x := (nI ((8 * c) + k))) dX12_meets_87 rfl ?_
                refine sp_iaload X (pc := 89) (a := (B 19)) rfl (Or.inl hVm.y19) (sp_in ((8 * c) + k) hVm.l19 (by omega) (by decide)) dX12_meets_89 ?_
                rw [show (m.aI (B 19) (nI ((8 * c) + k)).toNatClampNeg) = (m.aI (B 19) ((8 * c) + k)) from (congrArg _ (nI_clamp (n := ((8 * c) + k)) (by omega)))]
                rw [show (m.aI (B 19) ((8 * c) + k)) = (nI ((PT c).getD k []).length) from xc.1]
                refine sp_icmp_ne X (pc := 90) (tgt := 97) dX12_meets_90 (by decide) (fun hb90 => ?_) (fun hb90 => ?_)
                · have hl2 : ¬ ((PT a).getD k []).length = ((PT c).getD k []).length := fun z => hb90 (by rw [z])
                  refine sp_iconst X (pc := 97) (v := 0) dX12_meets_97 (by decide) ?_
                  refine sp_istore_n X (pc := 98) (lv' := [(3, false, .int 0), (6, false, .int (nI ((8 * c) + k))), (5, false, .int (nI ((8 * a) + k))), (0, false, va_rf (some (B 0))), (1, false, .int (nI a)), (2, false, .int (nI c)), (4, false, .int (nI k))]) dX12_meets_98 rfl (by decide) rfl ?_
                  refine sp_iconst X (pc := 99) (v := 0) dX12_meets_99 (by decide) ?_
                  refine sp_istore X (pc := 100) (lv' := [(7, false, .int 0), (3, false, .int 0), (6, false, .int (nI ((8 * c) + k))), (5, false, .int (nI ((8 * a) + k))), (0, false, va_rf (some (B 0))), (1, false, .int (nI a)), (2, false, .int (nI c)), (4, false, .int (nI k))]) dX12_meets_100  (by decide) rfl ?_
                  have loop102 : ∀ (dz : Nat) (wv : Int32) (i : Nat), i ≤ ((PT a).getD k []).length → sp_bo wv (((PT a).getD k []).length = ((PT c).getD k []).length ∧ ∀ q, q < i → (((PT a).getD k []).getD q 0 = ((PT c).getD k []).getD q 0 ∨ (¬ sp_hr R 2 = 0 ∧ sp_sm (((PT a).getD k []).getD q 0) = sp_sm (((PT c).getD k []).getD q 0)))) → ((PT a).getD k []).length - i = dz → w 0 0 m 102 [(0, false, va_rf (some (B 0))), (1, false, .int (nI a)), (2, false, .int (nI c)), (3, false, .int wv), (4, false, .int (nI k)), (5, false, .int (nI (8 * a + k))), (6, false, .int (nI (8 * c + k))), (7, false, .int (nI i))] [] := by
                    intro dz
                    induction dz using Nat.strongRecOn with
                    | ind dz ih =>
                      intro wv i hi hw hdz
                      refine sp_iload_n X (pc := 102) (x := wv) dX12_meets_102 rfl rfl ?_
                      refine sp_if_eq X (pc := 103) (tgt := 188) dX12_meets_103 (by decide) (fun hb103 => ?_) (fun hb103 => ?_)
                      · have hw0 := hw.eq hb103
                        refine sp_iinc X (pc := 188) (v := (nI (k + 1))) (lv' := [(4, false, .int (nI (k + 1))), (0, false, va_rf (some (B 0))), (1, false, .int (nI a)), (2, false, .int (nI c)), (3, false, .int wv), (5, false, .int (nI (8 * a + k))), (6, false, .int (nI (8 * c + k))), (7, false, .int (nI i))]) dX12_meets_188 rfl ((sp_i1 k)) (by decide) rfl ?_
                        refine sp_goto X (pc := 191) (tgt := 43) dX12_meets_191 (by decide) ?_
                        refine sp_pick X [1, 2, 3, 4, 0] (lv' := [(0, false, va_rf (some (B 0))), (1, false, .int (nI a)), (2, false, .int (nI c)), (3, false, .int wv), (4, false, .int (nI (k + 1)))]) rfl ?_
                        refine ihA _ (by omega) _ (k + 1) (by omega) ?_ rfl
                        first
                          | (rw [hb103]
                             refine sp_bo.f (fun z => hw0 ?_)
                             exact ⟨(z.2 k (by omega)).1, fun q hq => (z.2 k (by omega)).2 q (by omega)⟩)
                          | (refine hw.iff ⟨fun z => ⟨hu0.1, fun q hq => ?_⟩, fun z => ⟨(z.2 k (by omega)).1, fun q hq => (z.2 k (by omega)).2 q (by omega)⟩⟩
                             rcases Nat.lt_or_ge q k with q9 | q9
                             · exact hu0.2 q q9
                             · obtain rfl : q = k := by omega
                               exact ⟨z.1, fun r hr => z.2 r (by omega)⟩)
                      · have hw0 := hw.ne hb103
                        refine sp_iload X (pc := 106) (x := nI i) dX12_meets_106 rfl ?_
                        refine sp_aload_n X (pc := 108) (r := some (B 0)) dX12_meets_108 rfl rfl ?_
                        refine sp_getfield X (pc := 109) (c := 13) (i := 19) (t := 2) (a := (B 0)) (v := va_rf (some (B 19))) rfl hVm.r.o (by decide) rfl (congrArg va_rf hVm.f19) fl_Mo_51 dX12_meets_109 ?_
                        refine sp_iload X (pc := 112) (x := nI (8 * a + k)) dX12_meets_112 rfl ?_
                        refine sp_iaload X (pc := 114) (a := (B 19)) rfl (Or.inl hVm.y19) (sp_in (8 * a + k) hVm.l19 (by omega) (by decide)) dX12_meets_114 ?_
                        rw [show (m.aI (B 19) (nI (8 * a + k)).toNatClampNeg) = (m.aI (B 19) (8 * a + k)) from (congrArg _ (nI_clamp (n := (8 * a + k)) (by omega)))]
                        rw [show (m.aI (B 19) (8 * a + k)) = (nI ((PT a).getD k []).length) from xa.1]
                        refine sp_icmp_ge X (pc := 115) (tgt := 188) dX12_meets_115 (by decide) (fun hb115 => ?_) (fun hb115 => ?_)
                        · have hir : ((PT a).getD k []).length ≤ i := sp_nge hb115 (by omega) (by omega)
                          refine sp_iinc X (pc := 188) (v := (nI (k + 1))) (lv' := [(4, false, .int (nI (k + 1))), (0, false, va_rf (some (B 0))), (1, false, .int (nI a)), (2, false, .int (nI c)), (3, false, .int wv), (5, false, .int (nI (8 * a + k))), (6, false, .int (nI (8 * c + k))), (7, false, .int (nI i))]) dX12_meets_188 rfl ((sp_i1 k)) (by decide) rfl ?_
                          refine sp_goto X (pc := 191) (tgt := 43) dX12_meets_191 (by decide) ?_
                          refine sp_pick X [1, 2, 3, 4, 0] (lv' := [(0, false, va_rf (some (B 0))), (1, false, .int (nI a)), (2, false, .int (nI c)), (3, false, .int wv), (4, false, .int (nI (k + 1)))]) rfl ?_
                          refine ihA _ (by omega) _ (k + 1) (by omega) ?_ rfl
                          first
                            | (rw [hb103]
                               refine sp_bo.f (fun z => hw0 ?_)
                               exact ⟨(z.2 k (by omega)).1, fun q hq => (z.2 k (by omega)).2 q (by omega)⟩)
                            | (refine hw.iff ⟨fun z => ⟨hu0.1, fun q hq => ?_⟩, fun z => ⟨(z.2 k (by omega)).1, fun q hq => (z.2 k (by omega)).2 q (by omega)⟩⟩
                               rcases Nat.lt_or_ge q k with q9 | q9
                               · exact hu0.2 q q9
                               · obtain rfl : q = k := by omega
                                 exact ⟨z.1, fun r hr => z.2 r (by omega)⟩)
                        · have hir : i < ((PT a).getD k []).length := sp_nlt hb115 (by omega)
                          refine sp_aload_n X (pc := 118) (r := some (B 0)) dX12_meets_118 rfl rfl ?_
                          refine sp_getfield X (pc := 119) (c := 13) (i := 20) (t := 2) (a := (B 0)) (v := va_rf (some (B 20))) rfl hVm.r.o (by decide) rfl (congrArg va_rf hVm.f20) fl_Mo_54 dX12_meets_119 ?_
                          refine sp_bipush X (pc := 122) (v := 16) dX12_meets_122 (by decide) ?_
                          refine sp_iload X (pc := 124) (x := nI (8 * a + k)) dX12_meets_124 rfl ?_
                          refine sp_imul X (pc := 126) dX12_meets_126 ?_
                          rw [show (16 * (nI (8 * a + k))) = (nI (16 * (8 * a + k))) from (sp_mul 16 (8 * a + k))]
                          refine sp_iload X (pc := 127) (x := nI i) dX12_meets_127 rfl ?_
                          refine sp_iadd X (pc := 129) dX12_meets_129 ?_
                          rw [show ((nI (16 * (8 * a + k))) + (nI i)) = (nI ((16 * (8 * a + k)) + i)) from (nI_add (16 * (8 * a + k)) i)]
                          refine sp_iaload X (pc := 130) (a := (B 20)) rfl (Or.inl hVm.y20) (sp_in ((16 * (8 * a + k)) + i) hVm.l20 (by omega) (by decide)) dX12_meets_130 ?_
                          rw [show (m.aI (B 20) (nI ((16 * (8 * a + k)) + i)).toNatClampNeg) = (m.aI (B 20) ((16 * (8 * a + k)) + i)) from (congrArg _ (nI_clamp (n := ((16 * (8 * a + k)) + i)) (by omega)))]
                          rw [show (m.aI (B 20) ((16 * (8 * a + k)) + i)) = (((PT a).getD k []).getD i 0) from (xa.2 i hir)]
                          refine sp_istore X (pc := 131) (lv' := [(8, false, .int (((PT a).getD k []).getD i 0)), (0, false, va_rf (some (B 0))), (1, false, .int (nI a)), (2, false, .int (nI c)), (3, false, .int wv), (4, false, .int (nI k)), (5, false, .int (nI (8 * a + k))), (6, false, .int (nI (8 * c + k))), (7, false, .int (nI i))]) dX12_meets_131  (by decide) rfl ?_
                          refine sp_aload_n X (pc := 133) (r := some (B 0)) dX12_meets_133 rfl rfl ?_
                          refine sp_getfield X (pc := 134) (c := 13) (i := 20) (t := 2) (a := (B 0)) (v := va_rf (some (B 20))) rfl hVm.r.o (by decide) rfl (congrArg va_rf hVm.f20) fl_Mo_54 dX12_meets_134 ?_
                          refine sp_bipush X (pc := 137) (v := 16) dX12_meets_137 (by decide) ?_
                          refine sp_iload X (pc := 139) (x := nI (8 * c + k)) dX12_meets_139 rfl ?_
                          refine sp_imul X (pc := 141) dX12_meets_141 ?_
                          rw [show (16 * (nI (8 * c + k))) = (nI (16 * (8 * c + k))) from (sp_mul 16 (8 * c + k))]
                          refine sp_iload X (pc := 142) (x := nI i) dX12_meets_142 rfl ?_
                          refine sp_iadd X (pc := 144) dX12_meets_144 ?_
                          rw [show ((nI (16 * (8 * c + k))) + (nI i)) = (nI ((16 * (8 * c + k)) + i)) from (nI_add (16 * (8 * c + k)) i)]
                          refine sp_iaload X (pc := 145) (a := (B 20)) rfl (Or.inl hVm.y20) (sp_in ((16 * (8 * c + k)) + i) hVm.l20 (by omega) (by decide)) dX12_meets_145 ?_
                          rw [show (m.aI (B 20) (nI ((16 * (8 * c + k)) + i)).toNatClampNeg) = (m.aI (B 20) ((16 * (8 * c + k)) + i)) from (congrArg _ (nI_clamp (n := ((16 * (8 * c + k)) + i)) (by omega)))]
                          rw [show (m.aI (B 20) ((16 * (8 * c + k)) + i)) = (((PT c).getD k []).getD i 0) from (xc.2 i (by have := hw0.1; omega))]
                          refine sp_istore X (pc := 146) (lv' := [(9, false, .int (((PT c).getD k []).getD i 0)), (8, false, .int (((PT a).getD k []).getD i 0)), (0, false, va_rf (some (B 0))), (1, false, .int (nI a)), (2, false, .int (nI c)), (3, false, .int wv), (4, false, .int (nI k)), (5, false, .int (nI (8 * a + k))), (6, false, .int (nI (8 * c + k))), (7, false, .int (nI i))]) dX12_meets_146  (by decide) rfl ?_
                          refine sp_iload X (pc := 148) (x := (((PT a).getD k []).getD i 0)) dX12_meets_148 rfl ?_
                          refine sp_iload X (pc := 150) (x := (((PT c).getD k []).getD i 0)) dX12_meets_150 rfl ?_
                          refine sp_icmp_eq X (pc := 152) (tgt := 176) dX12_meets_152 (by decide) (fun hb152 => ?_) (fun hb152 => ?_)
                          · refine sp_iconst X (pc := 176) (v := 1) dX12_meets_176 (by decide) ?_
                            refine sp_goto X (pc := 177) (tgt := 181) dX12_meets_177 (by decide) ?_
                            refine sp_istore_n X (pc := 181) (lv' := [(3, false, .int 1), (9, false, .int (((PT c).getD k []).getD i 0)), (8, false, .int (((PT a).getD k []).getD i 0)), (0, false, va_rf (some (B 0))), (1, false, .int (nI a)), (2, false, .int (nI c)), (4, false, .int (nI k)), (5, false, .int (nI (8 * a + k))), (6, false, .int (nI (8 * c + k))), (7, false, .int (nI i))]) dX12_meets_181 rfl (by decide) rfl ?_
                            refine sp_iinc X (pc := 182) (v := (nI (i + 1))) (lv' := [(7, false, .int (nI (i + 1))), (3, false, .int 1), (9, false, .int (((PT c).getD k []).getD i 0)), (8, false, .int (((PT a).getD k []).getD i 0)), (0, false, va_rf (some (B 0))), (1, false, .int (nI a)), (2, false, .int (nI c)), (4, false, .int (nI k)), (5, false, .int (nI (8 * a + k))), (6, false, .int (nI (8 * c + k)))]) dX12_meets_182 rfl ((sp_i1 i)) (by decide) rfl ?_
                            refine sp_goto X (pc := 185) (tgt := 102) dX12_meets_185 (by decide) ?_
                            refine sp_pick X [4, 5, 6, 1, 7, 8, 9, 0] (lv' := [(0, false, va_rf (some (B 0))), (1, false, .int (nI a)), (2, false, .int (nI c)), (3, false, .int 1), (4, false, .int (nI k)), (5, false, .int (nI (8 * a + k))), (6, false, .int (nI (8 * c + k))), (7, false, .int (nI (i + 1)))]) rfl ?_
                            have hstep : ∀ P9 : Prop, (P9 ↔ (((PT a).getD k []).getD i 0 = ((PT c).getD k []).getD i 0 ∨ (¬ sp_hr R 2 = 0 ∧ sp_sm (((PT a).getD k []).getD i 0) = sp_sm (((PT c).getD k []).getD i 0)))) → (P9 ↔ (((PT a).getD k []).length = ((PT c).getD k []).length ∧ ∀ q, q < i + 1 → (((PT a).getD k []).getD q 0 = ((PT c).getD k []).getD q 0 ∨ (¬ sp_hr R 2 = 0 ∧ sp_sm (((PT a).getD k []).getD q 0) = sp_sm (((PT c).getD k []).getD q 0))))) := fun _ h => ⟨fun z => ⟨hw0.1, fun q hq => by
                              rcases Nat.lt_or_ge q i with q9 | q9
                              · exact hw0.2 q q9
                              · obtain rfl : q = i := by omega
                                exact h.mp z⟩, fun z => h.mpr (z.2 i (by omega))⟩
                            refine ih _ (by omega) _ (i + 1) (by omega) ?_ rfl
                            first
                              | exact (sp_bo.t (p := True) trivial).iff (hstep _ ⟨fun _ => Or.inl hb152, fun _ => trivial⟩)
                              | exact (sp_bo.t (p := True) trivial).iff (hstep _ ⟨fun _ => Or.inr ⟨hb160, hb173⟩, fun _ => trivial⟩)
                              | exact (sp_bo.f (p := False) id).iff (hstep _ ⟨False.elim, fun z => z.elim hb152 (fun y => y.1 hb160)⟩)
                              | exact (sp_bo.f (p := False) id).iff (hstep _ ⟨False.elim, fun z => z.elim hb152 (fun y => hb173 y.2)⟩)
                          · refine sp_aload_n X (pc := 155) (r := some (B 0)) dX12_meets_155 rfl rfl ?_
                            refine sp_iconst X (pc := 156) (v := 2) dX12_meets_156 (by decide) ?_
                            refine sp_callV X (pc := 157) (mc := 0) (ms := 0) (b := (B 0)) (c := 13) (r := some (B 0)) (As := [.int 2]) (rest := []) (c_Mo_hasRule l G _ hVm) ok_Mo_hasRule rfl hVm.r.o (by decide) rfl lk_Mo_118 rfl rfl (Nat.zero_le _) (Nat.le_of_ble_eq_true rfl) (Nat.le_of_ble_eq_true rfl) (Nat.zero_le _) (Nat.zero_le _) dX12_meets_157 (sp_kI fun v157 m157 hp157 => ?_)
                            obtain ⟨hp157v, hp157⟩ := hp157; replace hp157 := (hp157).symm; subst hp157; replace hp157v := (hp157v).symm; subst hp157v
                            refine sp_if_eq X (pc := 160) (tgt := 180) dX12_meets_160 (by decide) (fun hb160 => ?_) (fun hb160 => ?_)
                            · refine sp_iconst X (pc := 180) (v := 0) dX12_meets_180 (by decide) ?_
                              refine sp_istore_n X (pc := 181) (lv' := [(3, false, .int 0), (9, false, .int (((PT c).getD k []).getD i 0)), (8, false, .int (((PT a).getD k []).getD i 0)), (0, false, va_rf (some (B 0))), (1, false, .int (nI a)), (2, false, .int (nI c)), (4, false, .int (nI k)), (5, false, .int (nI (8 * a + k))), (6, false, .int (nI (8 * c + k))), (7, false, .int (nI i))]) dX12_meets_181 rfl (by decide) rfl ?_
                              refine sp_iinc X (pc := 182) (v := (nI (i + 1))) (lv' := [(7, false, .int (nI (i + 1))), (3, false, .int 0), (9, false, .int (((PT c).getD k []).getD i 0)), (8, false, .int (((PT a).getD k []).getD i 0)), (0, false, va_rf (some (B 0))), (1, false, .int (nI a)), (2, false, .int (nI c)), (4, false, .int (nI k)), (5, false, .int (nI (8 * a + k))), (6, false, .int (nI (8 * c + k)))]) dX12_meets_182 rfl ((sp_i1 i)) (by decide) rfl ?_
                              refine sp_goto X (pc := 185) (tgt := 102) dX12_meets_185 (by decide) ?_
                              refine sp_pick X [4, 5, 6, 1, 7, 8, 9, 0] (lv' := [(0, false, va_rf (some (B 0))), (1, false, .int (nI a)), (2, false, .int (nI c)), (3, false, .int 0), (4, false, .int (nI k)), (5, false, .int (nI (8 * a + k))), (6, false, .int (nI (8 * c + k))), (7, false, .int (nI (i + 1)))]) rfl ?_
                              have hstep : ∀ P9 : Prop, (P9 ↔ (((PT a).getD k []).getD i 0 = ((PT c).getD k []).getD i 0 ∨ (¬ sp_hr R 2 = 0 ∧ sp_sm (((PT a).getD k []).getD i 0) = sp_sm (((PT c).getD k []).getD i 0)))) → (P9 ↔ (((PT a).getD k []).length = ((PT c).getD k []).length ∧ ∀ q, q < i + 1 → (((PT a).getD k []).getD q 0 = ((PT c).getD k []).getD q 0 ∨ (¬ sp_hr R 2 = 0 ∧ sp_sm (((PT a).getD k []).getD q 0) = sp_sm (((PT c).getD k []).getD q 0))))) := fun _ h => ⟨fun z => ⟨hw0.1, fun q hq => by
                                rcases Nat.lt_or_ge q i with q9 | q9
                                · exact hw0.2 q q9
                                · obtain rfl : q = i := by omega
                                  exact h.mp z⟩, fun z => h.mpr (z.2 i (by omega))⟩
                              refine ih _ (by omega) _ (i + 1) (by omega) ?_ rfl
                              first
                                | exact (sp_bo.t (p := True) trivial).iff (hstep _ ⟨fun _ => Or.inl hb152, fun _ => trivial⟩)
                                | exact (sp_bo.t (p := True) trivial).iff (hstep _ ⟨fun _ => Or.inr ⟨hb160, hb173⟩, fun _ => trivial⟩)
                                | exact (sp_bo.f (p := False) id).iff (hstep _ ⟨False.elim, fun z => z.elim hb152 (fun y => y.1 hb160)⟩)
                                | exact (sp_bo.f (p := False) id).iff (hstep _ ⟨False.elim, fun z => z.elim hb152 (fun y => hb173 y.2)⟩)
                            · refine sp_iload X (pc := 163) (x := (((PT a).getD k []).getD i 0)) dX12_meets_163 rfl ?_
                              refine sp_callS X (pc := 165) (mc := 0) (ms := 0) (As := [.int (((PT a).getD k []).getD i 0)]) (rest := []) (c_Mo_small l G _) ok_Mo_small lk_Mo_128 rfl rfl (Nat.zero_le _) (Nat.le_of_ble_eq_true rfl) (Nat.le_of_ble_eq_true rfl) (Nat.zero_le _) (Nat.zero_le _) dX12_meets_165 (sp_kI fun v165 m165 hp165 => ?_)
                              obtain ⟨hp165v, hp165⟩ := hp165; replace hp165 := (hp165).symm; subst hp165; replace hp165v := (hp165v).symm; subst hp165v
                              refine sp_iload X (pc := 168) (x := (((PT c).getD k []).getD i 0)) dX12_meets_168 rfl ?_
                              refine sp_callS X (pc := 170) (mc := 0) (ms := 0) (As := [.int (((PT c).getD k []).getD i 0)]) (rest := [.int (sp_sm (((PT a).getD k []).getD i 0))]) (c_Mo_small l G _) ok_Mo_small lk_Mo_128 rfl rfl (by simp [sp_cat_rf, sp_cat_i, sp_cat_l]) (Nat.le_of_ble_eq_true rfl) (Nat.le_of_ble_eq_true rfl) (Nat.zero_le _) (Nat.zero_le _) dX12_meets_170 (sp_kI fun v170 m170 hp170 => ?_)
                              obtain ⟨hp170v, hp170⟩ := hp170; replace hp170 := (hp170).symm; subst hp170; replace hp170v := (hp170v).symm; subst hp170v
                              refine sp_icmp_ne X (pc := 173) (tgt := 180) dX12_meets_173 (by decide) (fun hb173 => ?_) (fun hb173 => ?_)
                              · refine sp_iconst X (pc := 180) (v := 0) dX12_meets_180 (by decide) ?_
                                refine sp_istore_n X (pc := 181) (lv' := [(3, false, .int 0), (9, false, .int (((PT c).getD k []).getD i 0)), (8, false, .int (((PT a).getD k []).getD i 0)), (0, false, va_rf (some (B 0))), (1, false, .int (nI a)), (2, false, .int (nI c)), (4, false, .int (nI k)), (5, false, .int (nI (8 * a + k))), (6, false, .int (nI (8 * c + k))), (7, false, .int (nI i))]) dX12_meets_181 rfl (by decide) rfl ?_
                                refine sp_iinc X (pc := 182) (v := (nI (i + 1))) (lv' := [(7, false, .int (nI (i + 1))), (3, false, .int 0), (9, false, .int (((PT c).getD k []).getD i 0)), (8, false, .int (((PT a).getD k []).getD i 0)), (0, false, va_rf (some (B 0))), (1, false, .int (nI a)), (2, false, .int (nI c)), (4, false, .int (nI k)), (5, false, .int (nI (8 * a + k))), (6, false, .int (nI (8 * c + k)))]) dX12_meets_182 rfl ((sp_i1 i)) (by decide) rfl ?_
                                refine sp_goto X (pc := 185) (tgt := 102) dX12_meets_185 (by decide) ?_
                                refine sp_pick X [4, 5, 6, 1, 7, 8, 9, 0] (lv' := [(0, false, va_rf (some (B 0))), (1, false, .int (nI a)), (2, false, .int (nI c)), (3, false, .int 0), (4, false, .int (nI k)), (5, false, .int (nI (8 * a + k))), (6, false, .int (nI (8 * c + k))), (7, false, .int (nI (i + 1)))]) rfl ?_
                                have hstep : ∀ P9 : Prop, (P9 ↔ (((PT a).getD k []).getD i 0 = ((PT c).getD k []).getD i 0 ∨ (¬ sp_hr R 2 = 0 ∧ sp_sm (((PT a).getD k []).getD i 0) = sp_sm (((PT c).getD k []).getD i 0)))) → (P9 ↔ (((PT a).getD k []).length = ((PT c).getD k []).length ∧ ∀ q, q < i + 1 → (((PT a).getD k []).getD q 0 = ((PT c).getD k []).getD q 0 ∨ (¬ sp_hr R 2 = 0 ∧ sp_sm (((PT a).getD k []).getD q 0) = sp_sm (((PT c).getD k []).getD q 0))))) := fun _ h => ⟨fun z => ⟨hw0.1, fun q hq => by
                                  rcases Nat.lt_or_ge q i with q9 | q9
                                  · exact hw0.2 q q9
                                  · obtain rfl : q = i := by omega
                                    exact h.mp z⟩, fun z => h.mpr (z.2 i (by omega))⟩
                                refine ih _ (by omega) _ (i + 1) (by omega) ?_ rfl
                                first
                                  | exact (sp_bo.t (p := True) trivial).iff (hstep _ ⟨fun _ => Or.inl hb152, fun _ => trivial⟩)
                                  | exact (sp_bo.t (p := True) trivial).iff (hstep _ ⟨fun _ => Or.inr ⟨hb160, hb173⟩, fun _ => trivial⟩)
                                  | exact (sp_bo.f (p := False) id).iff (hstep _ ⟨False.elim, fun z => z.elim hb152 (fun y => y.1 hb160)⟩)
                                  | exact (sp_bo.f (p := False) id).iff (hstep _ ⟨False.elim, fun z => z.elim hb152 (fun y => hb173 y.2)⟩)
                              · refine sp_iconst X (pc := 176) (v := 1) dX12_meets_176 (by decide) ?_
                                refine sp_goto X (pc := 177) (tgt := 181) dX12_meets_177 (by decide) ?_
                                refine sp_istore_n X (pc := 181) (lv' := [(3, false, .int 1), (9, false, .int (((PT c).getD k []).getD i 0)), (8, false, .int (((PT a).getD k []).getD i 0)), (0, false, va_rf (some (B 0))), (1, false, .int (nI a)), (2, false, .int (nI c)), (4, false, .int (nI k)), (5, false, .int (nI (8 * a + k))), (6, false, .int (nI (8 * c + k))), (7, false, .int (nI i))]) dX12_meets_181 rfl (by decide) rfl ?_
                                refine sp_iinc X (pc := 182) (v := (nI (i + 1))) (lv' := [(7, false, .int (nI (i + 1))), (3, false, .int 1), (9, false, .int (((PT c).getD k []).getD i 0)), (8, false, .int (((PT a).getD k []).getD i 0)), (0, false, va_rf (some (B 0))), (1, false, .int (nI a)), (2, false, .int (nI c)), (4, false, .int (nI k)), (5, false, .int (nI (8 * a + k))), (6, false, .int (nI (8 * c + k)))]) dX12_meets_182 rfl ((sp_i1 i)) (by decide) rfl ?_
                                refine sp_goto X (pc := 185) (tgt := 102) dX12_meets_185 (by decide) ?_
                                refine sp_pick X [4, 5, 6, 1, 7, 8, 9, 0] (lv' := [(0, false, va_rf (some (B 0))), (1, false, .int (nI a)), (2, false, .int (nI c)), (3, false, .int 1), (4, false, .int (nI k)), (5, false, .int (nI (8 * a + k))), (6, false, .int (nI (8 * c + k))), (7, false, .int (nI (i + 1)))]) rfl ?_
                                have hstep : ∀ P9 : Prop, (P9 ↔ (((PT a).getD k []).getD i 0 = ((PT c).getD k []).getD i 0 ∨ (¬ sp_hr R 2 = 0 ∧ sp_sm (((PT a).getD k []).getD i 0) = sp_sm (((PT c).getD k []).getD i 0)))) → (P9 ↔ (((PT a).getD k []).length = ((PT c).getD k []).length ∧ ∀ q, q < i + 1 → (((PT a).getD k []).getD q 0 = ((PT c).getD k []).getD q 0 ∨ (¬ sp_hr R 2 = 0 ∧ sp_sm (((PT a).getD k []).getD q 0) = sp_sm (((PT c).getD k []).getD q 0))))) := fun _ h => ⟨fun z => ⟨hw0.1, fun q hq => by
                                  rcases Nat.lt_or_ge q i with q9 | q9
                                  · exact hw0.2 q q9
                                  · obtain rfl : q = i := by omega
                                    exact h.mp z⟩, fun z => h.mpr (z.2 i (by omega))⟩
                                refine ih _ (by omega) _ (i + 1) (by omega) ?_ rfl
                                first
                                  | exact (sp_bo.t (p := True) trivial).iff (hstep _ ⟨fun _ => Or.inl hb152, fun _ => trivial⟩)
                                  | exact (sp_bo.t (p := True) trivial).iff (hstep _ ⟨fun _ => Or.inr ⟨hb160, hb173⟩, fun _ => trivial⟩)
                                  | exact (sp_bo.f (p := False) id).iff (hstep _ ⟨False.elim, fun z => z.elim hb152 (fun y => y.1 hb160)⟩)
                                  | exact (sp_bo.f (p := False) id).iff (hstep _ ⟨False.elim, fun z => z.elim hb152 (fun y => hb173 y.2)⟩)
                  refine sp_pick X [4, 5, 6, 1, 7, 3, 2, 0] (lv' := [(0, false, va_rf (some (B 0))), (1, false, .int (nI a)), (2, false, .int (nI c)), (3, false, .int 0), (4, false, .int (nI k)), (5, false, .int (nI ((8 * a) + k))), (6, false, .int (nI ((8 * c) + k))), (7, false, .int 0)]) rfl ?_
                  first
                    | exact loop102 _ _ 0 (Nat.zero_le _) (sp_bo.t ⟨hl2, fun q z => absurd z (Nat.not_lt_zero _)⟩) rfl
                    | exact loop102 _ _ 0 (Nat.zero_le _) (sp_bo.f (fun z => hl2 z.1)) rfl
                · have hl2 : ((PT a).getD k []).length = ((PT c).getD k []).length := sp_neq hb90 (by omega) (by omega)
                  refine sp_iconst X (pc := 93) (v := 1) dX12_meets_93 (by decide) ?_
                  refine sp_goto X (pc := 94) (tgt := 98) dX12_meets_94 (by decide) ?_
                  refine sp_istore_n X (pc := 98) (lv' := [(3, false, .int 1), (6, false, .int (nI ((8 * c) + k))), (5, false, .int (nI ((8 * a) + k))), (0, false, va_rf (some (B 0))), (1, false, .int (nI a)), (2, false, .int (nI c)), (4, false, .int (nI k))]) dX12_meets_98 rfl (by decide) rfl ?_
                  refine sp_iconst X (pc := 99) (v := 0) dX12_meets_99 (by decide) ?_
                  refine sp_istore X (pc := 100) (lv' := [(7, false, .int 0), (3, false, .int 1), (6, false, .int (nI ((8 * c) + k))), (5, false, .int (nI ((8 * a) + k))), (0, false, va_rf (some (B 0))), (1, false, .int (nI a)), (2, false, .int (nI c)), (4, false, .int (nI k))]) dX12_meets_100  (by decide) rfl ?_
                  have loop102 : ∀ (dz : Nat) (wv : Int32) (i : Nat), i ≤ ((PT a).getD k []).length → sp_bo wv (((PT a).getD k []).length = ((PT c).getD k []).length ∧ ∀ q, q < i → (((PT a).getD k []).getD q 0 = ((PT c).getD k []).getD q 0 ∨ (¬ sp_hr R 2 = 0 ∧ sp_sm (((PT a).getD k []).getD q 0) = sp_sm (((PT c).getD k []).getD q 0)))) → ((PT a).getD k []).length - i = dz → w 0 0 m 102 [(0, false, va_rf (some (B 0))), (1, false, .int (nI a)), (2, false, .int (nI c)), (3, false, .int wv), (4, false, .int (nI k)), (5, false, .int (nI (8 * a + k))), (6, false, .int (nI (8 * c + k))), (7, false, .int (nI i))] [] := by
                    intro dz
                    induction dz using Nat.strongRecOn with
                    | ind dz ih =>
                      intro wv i hi hw hdz
                      refine sp_iload_n X (pc := 102) (x := wv) dX12_meets_102 rfl rfl ?_
                      refine sp_if_eq X (pc := 103) (tgt := 188) dX12_meets_103 (by decide) (fun hb103 => ?_) (fun hb103 => ?_)
                      · have hw0 := hw.eq hb103
                        refine sp_iinc X (pc := 188) (v := (nI (k + 1))) (lv' := [(4, false, .int (nI (k + 1))), (0, false, va_rf (some (B 0))), (1, false, .int (nI a)), (2, false, .int (nI c)), (3, false, .int wv), (5, false, .int (nI (8 * a + k))), (6, false, .int (nI (8 * c + k))), (7, false, .int (nI i))]) dX12_meets_188 rfl ((sp_i1 k)) (by decide) rfl ?_
                        refine sp_goto X (pc := 191) (tgt := 43) dX12_meets_191 (by decide) ?_
                        refine sp_pick X [1, 2, 3, 4, 0] (lv' := [(0, false, va_rf (some (B 0))), (1, false, .int (nI a)), (2, false, .int (nI c)), (3, false, .int wv), (4, false, .int (nI (k + 1)))]) rfl ?_
                        refine ihA _ (by omega) _ (k + 1) (by omega) ?_ rfl
                        first
                          | (rw [hb103]
                             refine sp_bo.f (fun z => hw0 ?_)
                             exact ⟨(z.2 k (by omega)).1, fun q hq => (z.2 k (by omega)).2 q (by omega)⟩)
                          | (refine hw.iff ⟨fun z => ⟨hu0.1, fun q hq => ?_⟩, fun z => ⟨(z.2 k (by omega)).1, fun q hq => (z.2 k (by omega)).2 q (by omega)⟩⟩
                             rcases Nat.lt_or_ge q k with q9 | q9
                             · exact hu0.2 q q9
                             · obtain rfl : q = k := by omega
                               exact ⟨z.1, fun r hr => z.2 r (by omega)⟩)
                      · have hw0 := hw.ne hb103
                        refine sp_iload X (pc := 106) (x := nI i) dX12_meets_106 rfl ?_
                        refine sp_aload_n X (pc := 108) (r := some (B 0)) dX12_meets_108 rfl rfl ?_
                        refine sp_getfield X (pc := 109) (c := 13) (i := 19) (t := 2) (a := (B 0)) (v := va_rf (some (B 19))) rfl hVm.r.o (by decide) rfl (congrArg va_rf hVm.f19) fl_Mo_51 dX12_meets_109 ?_
                        refine sp_iload X (pc := 112) (x := nI (8 * a + k)) dX12_meets_112 rfl ?_
                        refine sp_iaload X (pc := 114) (a := (B 19)) rfl (Or.inl hVm.y19) (sp_in (8 * a + k) hVm.l19 (by omega) (by decide)) dX12_meets_114 ?_
                        rw [show (m.aI (B 19) (nI (8 * a + k)).toNatClampNeg) = (m.aI (B 19) (8 * a + k)) from (congrArg _ (nI_clamp (n := (8 * a + k)) (by omega)))]
                        rw [show (m.aI (B 19) (8 * a + k)) = (nI ((PT a).getD k []).length) from xa.1]
                        refine sp_icmp_ge X (pc := 115) (tgt := 188) dX12_meets_115 (by decide) (fun hb115 => ?_) (fun hb115 => ?_)
                        · have hir : ((PT a).getD k []).length ≤ i := sp_nge hb115 (by omega) (by omega)
                          refine sp_iinc X (pc := 188) (v := (nI (k + 1))) (lv' := [(4, false, .int (nI (k + 1))), (0, false, va_rf (some (B 0))), (1, false, .int (nI a)), (2, false, .int (nI c)), (3, false, .int wv), (5, false, .int (nI (8 * a + k))), (6, false, .int (nI (8 * c + k))), (7, false, .int (nI i))]) dX12_meets_188 rfl ((sp_i1 k)) (by decide) rfl ?_
                          refine sp_goto X (pc := 191) (tgt := 43) dX12_meets_191 (by decide) ?_
                          refine sp_pick X [1, 2, 3, 4, 0] (lv' := [(0, false, va_rf (some (B 0))), (1, false, .int (nI a)), (2, false, .int (nI c)), (3, false, .int wv), (4, false, .int (nI (k + 1)))]) rfl ?_
                          refine ihA _ (by omega) _ (k + 1) (by omega) ?_ rfl
                          first
                            | (rw [hb103]
                               refine sp_bo.f (fun z => hw0 ?_)
                               exact ⟨(z.2 k (by omega)).1, fun q hq => (z.2 k (by omega)).2 q (by omega)⟩)
                            | (refine hw.iff ⟨fun z => ⟨hu0.1, fun q hq => ?_⟩, fun z => ⟨(z.2 k (by omega)).1, fun q hq => (z.2 k (by omega)).2 q (by omega)⟩⟩
                               rcases Nat.lt_or_ge q k with q9 | q9
                               · exact hu0.2 q q9
                               · obtain rfl : q = k := by omega
                                 exact ⟨z.1, fun r hr => z.2 r (by omega)⟩)
                        · have hir : i < ((PT a).getD k []).length := sp_nlt hb115 (by omega)
                          refine sp_aload_n X (pc := 118) (r := some (B 0)) dX12_meets_118 rfl rfl ?_
                          refine sp_getfield X (pc := 119) (c := 13) (i := 20) (t := 2) (a := (B 0)) (v := va_rf (some (B 20))) rfl hVm.r.o (by decide) rfl (congrArg va_rf hVm.f20) fl_Mo_54 dX12_meets_119 ?_
                          refine sp_bipush X (pc := 122) (v := 16) dX12_meets_122 (by decide) ?_
                          refine sp_iload X (pc := 124) (x := nI (8 * a + k)) dX12_meets_124 rfl ?_
                          refine sp_imul X (pc := 126) dX12_meets_126 ?_
                          rw [show (16 * (nI (8 * a + k))) = (nI (16 * (8 * a + k))) from (sp_mul 16 (8 * a + k))]
                          refine sp_iload X (pc := 127) (x := nI i) dX12_meets_127 rfl ?_
                          refine sp_iadd X (pc := 129) dX12_meets_129 ?_
                          rw [show ((nI (16 * (8 * a + k))) + (nI i)) = (nI ((16 * (8 * a + k)) + i)) from (nI_add (16 * (8 * a + k)) i)]
                          refine sp_iaload X (pc := 130) (a := (B 20)) rfl (Or.inl hVm.y20) (sp_in ((16 * (8 * a + k)) + i) hVm.l20 (by omega) (by decide)) dX12_meets_130 ?_
                          rw [show (m.aI (B 20) (nI ((16 * (8 * a + k)) + i)).toNatClampNeg) = (m.aI (B 20) ((16 * (8 * a + k)) + i)) from (congrArg _ (nI_clamp (n := ((16 * (8 * a + k)) + i)) (by omega)))]
                          rw [show (m.aI (B 20) ((16 * (8 * a + k)) + i)) = (((PT a).getD k []).getD i 0) from (xa.2 i hir)]
                          refine sp_istore X (pc := 131) (lv' := [(8, false, .int (((PT a).getD k []).getD i 0)), (0, false, va_rf (some (B 0))), (1, false, .int (nI a)), (2, false, .int (nI c)), (3, false, .int wv), (4, false, .int (nI k)), (5, false, .int (nI (8 * a + k))), (6, false, .int (nI (8 * c + k))), (7, false, .int (nI i))]) dX12_meets_131  (by decide) rfl ?_
                          refine sp_aload_n X (pc := 133) (r := some (B 0)) dX12_meets_133 rfl rfl ?_
                          refine sp_getfield X (pc := 134) (c := 13) (i := 20) (t := 2) (a := (B 0)) (v := va_rf (some (B 20))) rfl hVm.r.o (by decide) rfl (congrArg va_rf hVm.f20) fl_Mo_54 dX12_meets_134 ?_
                          refine sp_bipush X (pc := 137) (v := 16) dX12_meets_137 (by decide) ?_
                          refine sp_iload X (pc := 139) (x := nI (8 * c + k)) dX12_meets_139 rfl ?_
                          refine sp_imul X (pc := 141) dX12_meets_141 ?_
                          rw [show (16 * (nI (8 * c + k))) = (nI (16 * (8 * c + k))) from (sp_mul 16 (8 * c + k))]
                          refine sp_iload X (pc := 142) (x := nI i) dX12_meets_142 rfl ?_
                          refine sp_iadd X (pc := 144) dX12_meets_144 ?_
                          rw [show ((nI (16 * (8 * c + k))) + (nI i)) = (nI ((16 * (8 * c + k)) + i)) from (nI_add (16 * (8 * c + k)) i)]
                          refine sp_iaload X (pc := 145) (a := (B 20)) rfl (Or.inl hVm.y20) (sp_in ((16 * (8 * c + k)) + i) hVm.l20 (by omega) (by decide)) dX12_meets_145 ?_
                          rw [show (m.aI (B 20) (nI ((16 * (8 * c + k)) + i)).toNatClampNeg) = (m.aI (B 20) ((16 * (8 * c + k)) + i)) from (congrArg _ (nI_clamp (n := ((16 * (8 * c + k)) + i)) (by omega)))]
                          rw [show (m.aI (B 20) ((16 * (8 * c + k)) + i)) = (((PT c).getD k []).getD i 0) from (xc.2 i (by have := hw0.1; omega))]
                          refine sp_istore X (pc := 146) (lv' := [(9, false, .int (((PT c).getD k []).getD i 0)), (8, false, .int (((PT a).getD k []).getD i 0)), (0, false, va_rf (some (B 0))), (1, false, .int (nI a)), (2, false, .int (nI c)), (3, false, .int wv), (4, false, .int (nI k)), (5, false, .int (nI (8 * a + k))), (6, false, .int (nI (8 * c + k))), (7, false, .int (nI i))]) dX12_meets_146  (by decide) rfl ?_
                          refine sp_iload X (pc := 148) (x := (((PT a).getD k []).getD i 0)) dX12_meets_148 rfl ?_
                          refine sp_iload X (pc := 150) (x := (((PT c).getD k []).getD i 0)) dX12_meets_150 rfl ?_
                          refine sp_icmp_eq X (pc := 152) (tgt := 176) dX12_meets_152 (by decide) (fun hb152 => ?_) (fun hb152 => ?_)
                          · refine sp_iconst X (pc := 176) (v := 1) dX12_meets_176 (by decide) ?_
                            refine sp_goto X (pc := 177) (tgt := 181) dX12_meets_177 (by decide) ?_
                            refine sp_istore_n X (pc := 181) (lv' := [(3, false, .int 1), (9, false, .int (((PT c).getD k []).getD i 0)), (8, false, .int (((PT a).getD k []).getD i 0)), (0, false, va_rf (some (B 0))), (1, false, .int (nI a)), (2, false, .int (nI c)), (4, false, .int (nI k)), (5, false, .int (nI (8 * a + k))), (6, false, .int (nI (8 * c + k))), (7, false, .int (nI i))]) dX12_meets_181 rfl (by decide) rfl ?_
                            refine sp_iinc X (pc := 182) (v := (nI (i + 1))) (lv' := [(7, false, .int (nI (i + 1))), (3, false, .int 1), (9, false, .int (((PT c).getD k []).getD i 0)), (8, false, .int (((PT a).getD k []).getD i 0)), (0, false, va_rf (some (B 0))), (1, false, .int (nI a)), (2, false, .int (nI c)), (4, false, .int (nI k)), (5, false, .int (nI (8 * a + k))), (6, false, .int (nI (8 * c + k)))]) dX12_meets_182 rfl ((sp_i1 i)) (by decide) rfl ?_
                            refine sp_goto X (pc := 185) (tgt := 102) dX12_meets_185 (by decide) ?_
                            refine sp_pick X [4, 5, 6, 1, 7, 8, 9, 0] (lv' := [(0, false, va_rf (some (B 0))), (1, false, .int (nI a)), (2, false, .int (nI c)), (3, false, .int 1), (4, false, .int (nI k)), (5, false, .int (nI (8 * a + k))), (6, false, .int (nI (8 * c + k))), (7, false, .int (nI (i + 1)))]) rfl ?_
                            have hstep : ∀ P9 : Prop, (P9 ↔ (((PT a).getD k []).getD i 0 = ((PT c).getD k []).getD i 0 ∨ (¬ sp_hr R 2 = 0 ∧ sp_sm (((PT a).getD k []).getD i 0) = sp_sm (((PT c).getD k []).getD i 0)))) → (P9 ↔ (((PT a).getD k []).length = ((PT c).getD k []).length ∧ ∀ q, q < i + 1 → (((PT a).getD k []).getD q 0 = ((PT c).getD k []).getD q 0 ∨ (¬ sp_hr R 2 = 0 ∧ sp_sm (((PT a).getD k []).getD q 0) = sp_sm (((PT c).getD k []).getD q 0))))) := fun _ h => ⟨fun z => ⟨hw0.1, fun q hq => by
                              rcases Nat.lt_or_ge q i with q9 | q9
                              · exact hw0.2 q q9
                              · obtain rfl : q = i := by omega
                                exact h.mp z⟩, fun z => h.mpr (z.2 i (by omega))⟩
                            refine ih _ (by omega) _ (i + 1) (by omega) ?_ rfl
                            first
                              | exact (sp_bo.t (p := True) trivial).iff (hstep _ ⟨fun _ => Or.inl hb152, fun _ => trivial⟩)
                              | exact (sp_bo.t (p := True) trivial).iff (hstep _ ⟨fun _ => Or.inr ⟨hb160, hb173⟩, fun _ => trivial⟩)
                              | exact (sp_bo.f (p := False) id).iff (hstep _ ⟨False.elim, fun z => z.elim hb152 (fun y => y.1 hb160)⟩)
                              | exact (sp_bo.f (p := False) id).iff (hstep _ ⟨False.elim, fun z => z.elim hb152 (fun y => hb173 y.2)⟩)
                          · refine sp_aload_n X (pc := 155) (r := some (B 0)) dX12_meets_155 rfl rfl ?_
                            refine sp_iconst X (pc := 156) (v := 2) dX12_meets_156 (by decide) ?_
                            refine sp_callV X (pc := 157) (mc := 0) (ms := 0) (b := (B 0)) (c := 13) (r := some (B 0)) (As := [.int 2]) (rest := []) (c_Mo_hasRule l G _ hVm) ok_Mo_hasRule rfl hVm.r.o (by decide) rfl lk_Mo_118 rfl rfl (Nat.zero_le _) (Nat.le_of_ble_eq_true rfl) (Nat.le_of_ble_eq_true rfl) (Nat.zero_le _) (Nat.zero_le _) dX12_meets_157 (sp_kI fun v157 m157 hp157 => ?_)
                            obtain ⟨hp157v, hp157⟩ := hp157; replace hp157 := (hp157).symm; subst hp157; replace hp157v := (hp157v).symm; subst hp157v
                            refine sp_if_eq X (pc := 160) (tgt := 180) dX12_meets_160 (by decide) (fun hb160 => ?_) (fun hb160 => ?_)
                            · refine sp_iconst X (pc := 180) (v := 0) dX12_meets_180 (by decide) ?_
                              refine sp_istore_n X (pc := 181) (lv' := [(3, false, .int 0), (9, false, .int (((PT c).getD k []).getD i 0)), (8, false, .int (((PT a).getD k []).getD i 0)), (0, false, va_rf (some (B 0))), (1, false, .int (nI a)), (2, false, .int (nI c)), (4, false, .int (nI k)), (5, false, .int (nI (8 * a + k))), (6, false, .int (nI (8 * c + k))), (7, false, .int (nI i))]) dX12_meets_181 rfl (by decide) rfl ?_
                              refine sp_iinc X (pc := 182) (v := (nI (i + 1))) (lv' := [(7, false, .int (nI (i + 1))), (3, false, .int 0), (9, false, .int (((PT c).getD k []).getD i 0)), (8, false, .int (((PT a).getD k []).getD i 0)), (0, false, va_rf (some (B 0))), (1, false, .int (nI a)), (2, false, .int (nI c)), (4, false, .int (nI k)), (5, false, .int (nI (8 * a + k))), (6, false, .int (nI (8 * c + k)))]) dX12_meets_182 rfl ((sp_i1 i)) (by decide) rfl ?_
                              refine sp_goto X (pc := 185) (tgt := 102) dX12_meets_185 (by decide) ?_
                              refine sp_pick X [4, 5, 6, 1, 7, 8, 9, 0] (lv' := [(0, false, va_rf (some (B 0))), (1, false, .int (nI a)), (2, false, .int (nI c)), (3, false, .int 0), (4, false, .int (nI k)), (5, false, .int (nI (8 * a + k))), (6, false, .int (nI (8 * c + k))), (7, false, .int (nI (i + 1)))]) rfl ?_
                              have hstep : ∀ P9 : Prop, (P9 ↔ (((PT a).getD k []).getD i 0 = ((PT c).getD k []).getD i 0 ∨ (¬ sp_hr R 2 = 0 ∧ sp_sm (((PT a).getD k []).getD i 0) = sp_sm (((PT c).getD k []).getD i 0)))) → (P9 ↔ (((PT a).getD k []).length = ((PT c).getD k []).length ∧ ∀ q, q < i + 1 → (((PT a).getD k []).getD q 0 = ((PT c).getD k []).getD q 0 ∨ (¬ sp_hr R 2 = 0 ∧ sp_sm (((PT a).getD k []).getD q 0) = sp_sm (((PT c).getD k []).getD q 0))))) := fun _ h => ⟨fun z => ⟨hw0.1, fun q hq => by
                                rcases Nat.lt_or_ge q i with q9 | q9
                                · exact hw0.2 q q9
                                · obtain rfl : q = i := by omega
                                  exact h.mp z⟩, fun z => h.mpr (z.2 i (by omega))⟩
                              refine ih _ (by omega) _ (i + 1) (by omega) ?_ rfl
                              first
                                | exact (sp_bo.t (p := True) trivial).iff (hstep _ ⟨fun _ => Or.inl hb152, fun _ => trivial⟩)
                                | exact (sp_bo.t (p := True) trivial).iff (hstep _ ⟨fun _ => Or.inr ⟨hb160, hb173⟩, fun _ => trivial⟩)
                                | exact (sp_bo.f (p := False) id).iff (hstep _ ⟨False.elim, fun z => z.elim hb152 (fun y => y.1 hb160)⟩)
                                | exact (sp_bo.f (p := False) id).iff (hstep _ ⟨False.elim, fun z => z.elim hb152 (fun y => hb173 y.2)⟩)
                            · refine sp_iload X (pc := 163) (x := (((PT a).getD k []).getD i 0)) dX12_meets_163 rfl ?_
                              refine sp_callS X (pc := 165) (mc := 0) (ms := 0) (As := [.int (((PT a).getD k []).getD i 0)]) (rest := []) (c_Mo_small l G _) ok_Mo_small lk_Mo_128 rfl rfl (Nat.zero_le _) (Nat.le_of_ble_eq_true rfl) (Nat.le_of_ble_eq_true rfl) (Nat.zero_le _) (Nat.zero_le _) dX12_meets_165 (sp_kI fun v165 m165 hp165 => ?_)
                              obtain ⟨hp165v, hp165⟩ := hp165; replace hp165 := (hp165).symm; subst hp165; replace hp165v := (hp165v).symm; subst hp165v
                              refine sp_iload X (pc := 168) (x := (((PT c).getD k []).getD i 0)) dX12_meets_168 rfl ?_
                              refine sp_callS X (pc := 170) (mc := 0) (ms := 0) (As := [.int (((PT c).getD k []).getD i 0)]) (rest := [.int (sp_sm (((PT a).getD k []).getD i 0))]) (c_Mo_small l G _) ok_Mo_small lk_Mo_128 rfl rfl (by simp [sp_cat_rf, sp_cat_i, sp_cat_l]) (Nat.le_of_ble_eq_true rfl) (Nat.le_of_ble_eq_true rfl) (Nat.zero_le _) (Nat.zero_le _) dX12_meets_170 (sp_kI fun v170 m170 hp170 => ?_)
                              obtain ⟨hp170v, hp170⟩ := hp170; replace hp170 := (hp170).symm; subst hp170; replace hp170v := (hp170v).symm; subst hp170v
                              refine sp_icmp_ne X (pc := 173) (tgt := 180) dX12_meets_173 (by decide) (fun hb173 => ?_) (fun hb173 => ?_)
                              · refine sp_iconst X (pc := 180) (v := 0) dX12_meets_180 (by decide) ?_
                                refine sp_istore_n X (pc := 181) (lv' := [(3, false, .int 0), (9, false, .int (((PT c).getD k []).getD i 0)), (8, false, .int (((PT a).getD k []).getD i 0)), (0, false, va_rf (some (B 0))), (1, false, .int (nI a)), (2, false, .int (nI c)), (4, false, .int (nI k)), (5, false, .int (nI (8 * a + k))), (6, false, .int (nI (8 * c + k))), (7, false, .int (nI i))]) dX12_meets_181 rfl (by decide) rfl ?_
                                refine sp_iinc X (pc := 182) (v := (nI (i + 1))) (lv' := [(7, false, .int (nI (i + 1))), (3, false, .int 0), (9, false, .int (((PT c).getD k []).getD i 0)), (8, false, .int (((PT a).getD k []).getD i 0)), (0, false, va_rf (some (B 0))), (1, false, .int (nI a)), (2, false, .int (nI c)), (4, false, .int (nI k)), (5, false, .int (nI (8 * a + k))), (6, false, .int (nI (8 * c + k)))]) dX12_meets_182 rfl ((sp_i1 i)) (by decide) rfl ?_
                                refine sp_goto X (pc := 185) (tgt := 102) dX12_meets_185 (by decide) ?_
                                refine sp_pick X [4, 5, 6, 1, 7, 8, 9, 0] (lv' := [(0, false, va_rf (some (B 0))), (1, false, .int (nI a)), (2, false, .int (nI c)), (3, false, .int 0), (4, false, .int (nI k)), (5, false, .int (nI (8 * a + k))), (6, false, .int (nI (8 * c + k))), (7, false, .int (nI (i + 1)))]) rfl ?_
                                have hstep : ∀ P9 : Prop, (P9 ↔ (((PT a).getD k []).getD i 0 = ((PT c).getD k []).getD i 0 ∨ (¬ sp_hr R 2 = 0 ∧ sp_sm (((PT a).getD k []).getD i 0) = sp_sm (((PT c).getD k []).getD i 0)))) → (P9 ↔ (((PT a).getD k []).length = ((PT c).getD k []).length ∧ ∀ q, q < i + 1 → (((PT a).getD k []).getD q 0 = ((PT c).getD k []).getD q 0 ∨ (¬ sp_hr R 2 = 0 ∧ sp_sm (((PT a).getD k []).getD q 0) = sp_sm (((PT c).getD k []).getD q 0))))) := fun _ h => ⟨fun z => ⟨hw0.1, fun q hq => by
                                  rcases Nat.lt_or_ge q i with q9 | q9
                                  · exact hw0.2 q q9
                                  · obtain rfl : q = i := by omega
                                    exact h.mp z⟩, fun z => h.mpr (z.2 i (by omega))⟩
                                refine ih _ (by omega) _ (i + 1) (by omega) ?_ rfl
                                first
                                  | exact (sp_bo.t (p := True) trivial).iff (hstep _ ⟨fun _ => Or.inl hb152, fun _ => trivial⟩)
                                  | exact (sp_bo.t (p := True) trivial).iff (hstep _ ⟨fun _ => Or.inr ⟨hb160, hb173⟩, fun _ => trivial⟩)
                                  | exact (sp_bo.f (p := False) id).iff (hstep _ ⟨False.elim, fun z => z.elim hb152 (fun y => y.1 hb160)⟩)
                                  | exact (sp_bo.f (p := False) id).iff (hstep _ ⟨False.elim, fun z => z.elim hb152 (fun y => hb173 y.2)⟩)
                              · refine sp_iconst X (pc := 176) (v := 1) dX12_meets_176 (by decide) ?_
                                refine sp_goto X (pc := 177) (tgt := 181) dX12_meets_177 (by decide) ?_
                                refine sp_istore_n X (pc := 181) (lv' := [(3, false, .int 1), (9, false, .int (((PT c).getD k []).getD i 0)), (8, false, .int (((PT a).getD k []).getD i 0)), (0, false, va_rf (some (B 0))), (1, false, .int (nI a)), (2, false, .int (nI c)), (4, false, .int (nI k)), (5, false, .int (nI (8 * a + k))), (6, false, .int (nI (8 * c + k))), (7, false, .int (nI i))]) dX12_meets_181 rfl (by decide) rfl ?_
                                refine sp_iinc X (pc := 182) (v := (nI (i + 1))) (lv' := [(7, false, .int (nI (i + 1))), (3, false, .int 1), (9, false, .int (((PT c).getD k []).getD i 0)), (8, false, .int (((PT a).getD k []).getD i 0)), (0, false, va_rf (some (B 0))), (1, false, .int (nI a)), (2, false, .int (nI c)), (4, false, .int (nI k)), (5, false, .int (nI (8 * a + k))), (6, false, .int (nI (8 * c + k)))]) dX12_meets_182 rfl ((sp_i1 i)) (by decide) rfl ?_
                                refine sp_goto X (pc := 185) (tgt := 102) dX12_meets_185 (by decide) ?_
                                refine sp_pick X [4, 5, 6, 1, 7, 8, 9, 0] (lv' := [(0, false, va_rf (some (B 0))), (1, false, .int (nI a)), (2, false, .int (nI c)), (3, false, .int 1), (4, false, .int (nI k)), (5, false, .int (nI (8 * a + k))), (6, false, .int (nI (8 * c + k))), (7, false, .int (nI (i + 1)))]) rfl ?_
                                have hstep : ∀ P9 : Prop, (P9 ↔ (((PT a).getD k []).getD i 0 = ((PT c).getD k []).getD i 0 ∨ (¬ sp_hr R 2 = 0 ∧ sp_sm (((PT a).getD k []).getD i 0) = sp_sm (((PT c).getD k []).getD i 0)))) → (P9 ↔ (((PT a).getD k []).length = ((PT c).getD k []).length ∧ ∀ q, q < i + 1 → (((PT a).getD k []).getD q 0 = ((PT c).getD k []).getD q 0 ∨ (¬ sp_hr R 2 = 0 ∧ sp_sm (((PT a).getD k []).getD q 0) = sp_sm (((PT c).getD k []).getD q 0))))) := fun _ h => ⟨fun z => ⟨hw0.1, fun q hq => by
                                  rcases Nat.lt_or_ge q i with q9 | q9
                                  · exact hw0.2 q q9
                                  · obtain rfl : q = i := by omega
                                    exact h.mp z⟩, fun z => h.mpr (z.2 i (by omega))⟩
                                refine ih _ (by omega) _ (i + 1) (by omega) ?_ rfl
                                first
                                  | exact (sp_bo.t (p := True) trivial).iff (hstep _ ⟨fun _ => Or.inl hb152, fun _ => trivial⟩)
                                  | exact (sp_bo.t (p := True) trivial).iff (hstep _ ⟨fun _ => Or.inr ⟨hb160, hb173⟩, fun _ => trivial⟩)
                                  | exact (sp_bo.f (p := False) id).iff (hstep _ ⟨False.elim, fun z => z.elim hb152 (fun y => y.1 hb160)⟩)
                                  | exact (sp_bo.f (p := False) id).iff (hstep _ ⟨False.elim, fun z => z.elim hb152 (fun y => hb173 y.2)⟩)
                  refine sp_pick X [4, 5, 6, 1, 7, 3, 2, 0] (lv' := [(0, false, va_rf (some (B 0))), (1, false, .int (nI a)), (2, false, .int (nI c)), (3, false, .int 1), (4, false, .int (nI k)), (5, false, .int (nI ((8 * a) + k))), (6, false, .int (nI ((8 * c) + k))), (7, false, .int 0)]) rfl ?_
                  first
                    | exact loop102 _ _ 0 (Nat.zero_le _) (sp_bo.t ⟨hl2, fun q z => absurd z (Nat.not_lt_zero _)⟩) rfl
                    | exact loop102 _ _ 0 (Nat.zero_le _) (sp_bo.f (fun z => hl2 z.1)) rfl
        refine sp_pick X [2, 3, 4, 1, 0] (lv' := [(0, false, va_rf (some (B 0))), (1, false, .int (nI a)), (2, false, .int (nI c)), (3, false, .int 0), (4, false, .int 0)]) rfl ?_
        first
          | exact loop43 _ _ 0 (Nat.zero_le _) (sp_bo.t ⟨hlen, fun q z => absurd z (Nat.not_lt_zero _)⟩) rfl
          | exact loop43 _ _ 0 (Nat.zero_le _) (sp_bo.f (fun z => hlen z.1)) rfl
      · have hlen : (PT a).length = (PT c).length := sp_neq hb31 (by omega) (by omega)
        refine sp_iconst X (pc := 34) (v := 1) dX12_meets_34 (by decide) ?_
        refine sp_goto X (pc := 35) (tgt := 39) dX12_meets_35 (by decide) ?_
        refine sp_istore_n X (pc := 39) (lv' := [(3, false, .int 1), (0, false, va_rf (some (B 0))), (1, false, .int (nI a)), (2, false, .int (nI c))]) dX12_meets_39 rfl (by decide) rfl ?_
        refine sp_iconst X (pc := 40) (v := 0) dX12_meets_40 (by decide) ?_
        refine sp_istore X (pc := 41) (lv' := [(4, false, .int 0), (3, false, .int 1), (0, false, va_rf (some (B 0))), (1, false, .int (nI a)), (2, false, .int (nI c))]) dX12_meets_41  (by decide) rfl ?_
        have loop43 : ∀ (dz : Nat) (u : Int32) (k : Nat), k ≤ (PT a).length → sp_bo u ((PT a).length = (PT c).length ∧ ∀ q, q < k → pu_al R ((PT a).getD q []) ((PT c).getD q [])) → (PT a).length - k = dz → w 0 0 m 43 [(0, false, va_rf (some (B 0))), (1, false, .int (nI a)), (2, false, .int (nI c)), (3, false, .int u), (4, false, .int (nI k))] [] := by
          intro dz
          induction dz using Nat.strongRecOn with
          | ind dz ih =>
            intro u k hk hu hdz
            have ihA := ih
            refine sp_iload_n X (pc := 43) (x := u) dX12_meets_43 rfl rfl ?_
            refine sp_if_eq X (pc := 44) (tgt := 194) dX12_meets_44 (by decide) (fun hb44 => ?_) (fun hb44 => ?_)
            · have hu0 := hu.eq hb44
              refine sp_pick X [3] (lv' := [(3, false, .int u)]) rfl ?_
              first
                | exact cut194 _ a c ha hc rfl rfl (by rw [hb44]; exact sp_bo.f (fun z => hu0 ⟨z.1, fun q hq => z.2 q (by omega)⟩))
                | exact cut194 _ a c ha hc rfl rfl (hu.iff ⟨fun z => ⟨z.1, fun q hq => z.2 q (by omega)⟩, fun z => ⟨z.1, fun q hq => z.2 q (by omega)⟩⟩)
            · have hu0 := hu.ne hb44
              refine sp_iload X (pc := 47) (x := nI k) dX12_meets_47 rfl ?_
              refine sp_aload_n X (pc := 49) (r := some (B 0)) dX12_meets_49 rfl rfl ?_
              refine sp_getfield X (pc := 50) (c := 13) (i := 18) (t := 2) (a := (B 0)) (v := va_rf (some (B 18))) rfl hVm.r.o (by decide) rfl (congrArg va_rf hVm.f18) fl_Mo_48 dX12_meets_50 ?_
              refine sp_iload_n X (pc := 53) (x := nI a) dX12_meets_53 rfl rfl ?_
              refine sp_iaload X (pc := 54) (a := (B 18)) rfl (Or.inl hVm.y18) (sp_in a hVm.l18 (by omega) (by decide)) dX12_meets_54 ?_
              rw [show (m.aI (B 18) (nI a).toNatClampNeg) = (m.aI (B 18) a) from (congrArg _ (nI_clamp (n := a) (by omega)))]
              rw [show (m.aI (B 18) a) = (nI (PT a).length) from za.1]
              refine sp_icmp_ge X (pc := 55) (tgt := 194) dX12_meets_55 (by decide) (fun hb55 => ?_) (fun hb55 => ?_)
              · have hkq : (PT a).length ≤ k := sp_nge hb55 (by omega) (by omega)
                refine sp_pick X [3] (lv' := [(3, false, .int u)]) rfl ?_
                first
                  | exact cut194 _ a c ha hc rfl rfl (by rw [hb44]; exact sp_bo.f (fun z => hu0 ⟨z.1, fun q hq => z.2 q (by omega)⟩))
                  | exact cut194 _ a c ha hc rfl rfl (hu.iff ⟨fun z => ⟨z.1, fun q hq => z.2 q (by omega)⟩, fun z => ⟨z.1, fun q hq => z.2 q (by omega)⟩⟩)
              · have hkq : k < (PT a).length := sp_nlt hb55 (by omega)
                have xa := za.2 k hkq
                have xc := zc.2 k (by have := hu0.1; omega)
                have ya := la.2.2 k hkq
                have yc := lc.2.2 k (by have := hu0.1; omega)
                refine sp_bipush X (pc := 58) (v := 8) dX12_meets_58 (by decide) ?_
                refine sp_iload_n X (pc := 60) (x := nI a) dX12_meets_60 rfl rfl ?_
                refine sp_imul X (pc := 61) dX12_meets_61 ?_
                rw [show (8 * (nI a)) = (nI (8 * a)) from (sp_mul 8 a)]
                refine sp_iload X (pc := 62) (x := nI k) dX12_meets_62 rfl ?_
                refine sp_iadd X (pc := 64) dX12_meets_64 ?_
                rw [show ((nI (8 * a)) + (nI k)) = (nI ((8 * a) + k)) from (nI_add (8 * a) k)]
                refine sp_istore X (pc := 65) (lv' := [(5, false, .int (nI ((8 * a) + k))), (0, false, va_rf (some (B 0))), (1, false, .int (nI a)), (2, false, .int (nI c)), (3, false, .int u), (4, false, .int (nI k))]) dX12_meets_65  (by decide) rfl ?_
                refine sp_bipush X (pc := 67) (v := 8) dX12_meets_67 (by decide) ?_
                refine sp_iload_n X (pc := 69) (x := nI c) dX12_meets_69 rfl rfl ?_
                refine sp_imul X (pc := 70) dX12_meets_70 ?_
                rw [show (8 * (nI c)) = (nI (8 * c)) from (sp_mul 8 c)]
                refine sp_iload X (pc := 71) (x := nI k) dX12_meets_71 rfl ?_
                refine sp_iadd X (pc := 73) dX12_meets_73 ?_
                rw [show ((nI (8 * c)) + (nI k)) = (nI ((8 * c) + k)) from (nI_add (8 * c) k)]
                refine sp_istore X (pc := 74) (lv' := [(6, false, .int (nI ((8 * c) + k))), (5, false, .int (nI ((8 * a) + k))), (0, false, va_rf (some (B 0))), (1, false, .int (nI a)), (2, false, .int (nI c)), (3, false, .int u), (4, false, .int (nI k))]) dX12_meets_74  (by decide) rfl ?_
                refine sp_aload_n X (pc := 76) (r := some (B 0)) dX12_meets_76 rfl rfl ?_
                refine sp_getfield X (pc := 77) (c := 13) (i := 19) (t := 2) (a := (B 0)) (v := va_rf (some (B 19))) rfl hVm.r.o (by decide) rfl (congrArg va_rf hVm.f19) fl_Mo_51 dX12_meets_77 ?_
                refine sp_iload X (pc := 80) (x := (nI ((8 * a) + k))) dX12_meets_80 rfl ?_
                refine sp_iaload X (pc := 82) (a := (B 19)) rfl (Or.inl hVm.y19) (sp_in ((8 * a) + k) hVm.l19 (by omega) (by decide)) dX12_meets_82 ?_
                rw [show (m.aI (B 19) (nI ((8 * a) + k)).toNatClampNeg) = (m.aI (B 19) ((8 * a) + k)) from (congrArg _ (nI_clamp (n := ((8 * a) + k)) (by omega)))]
                rw [show (m.aI (B 19) ((8 * a) + k)) = (nI ((PT a).getD k []).length) from xa.1]
                refine sp_aload_n X (pc := 83) (r := some (B 0)) dX12_meets_83 rfl rfl ?_
                refine sp_getfield X (pc := 84) (c := 13) (i := 19) (t := 2) (a := (B 0)) (v := va_rf (some (B 19))) rfl hVm.r.o (by decide) rfl (congrArg va_rf hVm.f19) fl_Mo_51 dX12_meets_84 ?_
                refine sp_iload X (pc := 87) (x := (nI ((8 * c) + k))) dX12_meets_87 rfl ?_
                refine sp_iaload X (pc := 89) (a := (B 19)) rfl (Or.inl hVm.y19) (sp_in ((8 * c) + k) hVm.l19 (by omega) (by decide)) dX12_meets_89 ?_
                rw [show (m.aI (B 19) (nI ((8 * c) + k)).toNatClampNeg) = (m.aI (B 19) ((8 * c) + k)) from (congrArg _ (nI_clamp (n := ((8 * c) + k)) (by omega)))]
                rw [show (m.aI (B 19) ((8 * c) + k)) = (nI ((PT c).getD k []).length) from xc.1]
                refine sp_icmp_ne X (pc := 90) (tgt := 97) dX12_meets_90 (by decide) (fun hb90 => ?_) (fun hb90 => ?_)
                · have hl2 : ¬ ((PT a).getD k []).length = ((PT c).getD k []).length := fun z => hb90 (by rw [z])
                  refine sp_iconst X (pc := 97) (v := 0) dX12_meets_97 (by decide) ?_
                  refine sp_istore_n X (pc := 98) (lv' := [(3, false, .int 0), (6, false, .int (nI ((8 * c) + k))), (5, false, .int (nI ((8 * a) + k))), (0, false, va_rf (some (B 0))), (1, false, .int (nI a)), (2, false, .int (nI c)), (4, false, .int (nI k))]) dX12_meets_98 rfl (by decide) rfl ?_
                  refine sp_iconst X (pc := 99) (v := 0) dX12_meets_99 (by decide) ?_
                  refine sp_istore X (pc := 100) (lv' := [(7, false, .int 0), (3, false, .int 0), (6, false, .int (nI ((8 * c) + k))), (5, false, .int (nI ((8 * a) + k))), (0, false, va_rf (some (B 0))), (1, false, .int (nI a)), (2, false, .int (nI c)), (4, false, .int (nI k))]) dX12_meets_100  (by decide) rfl ?_
                  have loop102 : ∀ (dz : Nat) (wv : Int32) (i : Nat), i ≤ ((PT a).getD k []).length → sp_bo wv (((PT a).getD k []).length = ((PT c).getD k []).length ∧ ∀ q, q < i → (((PT a).getD k []).getD q 0 = ((PT c).getD k []).getD q 0 ∨ (¬ sp_hr R 2 = 0 ∧ sp_sm (((PT a).getD k []).getD q 0) = sp_sm (((PT c).getD k []).getD q 0)))) → ((PT a).getD k []).length - i = dz → w 0 0 m 102 [(0, false, va_rf (some (B 0))), (1, false, .int (nI a)), (2, false, .int (nI c)), (3, false, .int wv), (4, false, .int (nI k)), (5, false, .int (nI (8 * a + k))), (6, false, .int (nI (8 * c + k))), (7, false, .int (nI i))] [] := by
                    intro dz
                    induction dz using Nat.strongRecOn with
                    | ind dz ih =>
                      intro wv i hi hw hdz
                      refine sp_iload_n X (pc := 102) (x := wv) dX12_meets_102 rfl rfl ?_
                      refine sp_if_eq X (pc := 103) (tgt := 188) dX12_meets_103 (by decide) (fun hb103 => ?_) (fun hb103 => ?_)
                      · have hw0 := hw.eq hb103
                        refine sp_iinc X (pc := 188) (v := (nI (k + 1))) (lv' := [(4, false, .int (nI (k + 1))), (0, false, va_rf (some (B 0))), (1, false, .int (nI a)), (2, false, .int (nI c)), (3, false, .int wv), (5, false, .int (nI (8 * a + k))), (6, false, .int (nI (8 * c + k))), (7, false, .int (nI i))]) dX12_meets_188 rfl ((sp_i1 k)) (by decide) rfl ?_
                        refine sp_goto X (pc := 191) (tgt := 43) dX12_meets_191 (by decide) ?_
                        refine sp_pick X [1, 2, 3, 4, 0] (lv' := [(0, false, va_rf (some (B 0))), (1, false, .int (nI a)), (2, false, .int (nI c)), (3, false, .int wv), (4, false, .int (nI (k + 1)))]) rfl ?_
                        refine ihA _ (by omega) _ (k + 1) (by omega) ?_ rfl
                        first
                          | (rw [hb103]
                             refine sp_bo.f (fun z => hw0 ?_)
                             exact ⟨(z.2 k (by omega)).1, fun q hq => (z.2 k (by omega)).2 q (by omega)⟩)
                          | (refine hw.iff ⟨fun z => ⟨hu0.1, fun q hq => ?_⟩, fun z => ⟨(z.2 k (by omega)).1, fun q hq => (z.2 k (by omega)).2 q (by omega)⟩⟩
                             rcases Nat.lt_or_ge q k with q9 | q9
                             · exact hu0.2 q q9
                             · obtain rfl : q = k := by omega
                               exact ⟨z.1, fun r hr => z.2 r (by omega)⟩)
                      · have hw0 := hw.ne hb103
                        refine sp_iload X (pc := 106) (x := nI i) dX12_meets_106 rfl ?_
                        refine sp_aload_n X (pc := 108) (r := some (B 0)) dX12_meets_108 rfl rfl ?_
                        refine sp_getfield X (pc := 109) (c := 13) (i := 19) (t := 2) (a := (B 0)) (v := va_rf (some (B 19))) rfl hVm.r.o (by decide) rfl (congrArg va_rf hVm.f19) fl_Mo_51 dX12_meets_109 ?_
                        refine sp_iload X (pc := 112) (x := nI (8 * a + k)) dX12_meets_112 rfl ?_
                        refine sp_iaload X (pc := 114) (a := (B 19)) rfl (Or.inl hVm.y19) (sp_in (8 * a + k) hVm.l19 (by omega) (by decide)) dX12_meets_114 ?_
                        rw [show (m.aI (B 19) (nI (8 * a + k)).toNatClampNeg) = (m.aI (B 19) (8 * a + k)) from (congrArg _ (nI_clamp (n := (8 * a + k)) (by omega)))]
                        rw [show (m.aI (B 19) (8 * a + k)) = (nI ((PT a).getD k []).length) from xa.1]
                        refine sp_icmp_ge X (pc := 115) (tgt := 188) dX12_meets_115 (by decide) (fun hb115 => ?_) (fun hb115 => ?_)
                        · have hir : ((PT a).getD k []).length ≤ i := sp_nge hb115 (by omega) (by omega)
                          refine sp_iinc X (pc := 188) (v := (nI (k + 1))) (lv' := [(4, false, .int (nI (k + 1))), (0, false, va_rf (some (B 0))), (1, false, .int (nI a)), (2, false, .int (nI c)), (3, false, .int wv), (5, false, .int (nI (8 * a + k))), (6, false, .int (nI (8 * c + k))), (7, false, .int (nI i))]) dX12_meets_188 rfl ((sp_i1 k)) (by decide) rfl ?_
                          refine sp_goto X (pc := 191) (tgt := 43) dX12_meets_191 (by decide) ?_
                          refine sp_pick X [1, 2, 3, 4, 0] (lv' := [(0, false, va_rf (some (B 0))), (1, false, .int (nI a)), (2, false, .int (nI c)), (3, false, .int wv), (4, false, .int (nI (k + 1)))]) rfl ?_
                          refine ihA _ (by omega) _ (k + 1) (by omega) ?_ rfl
                          first
                            | (rw [hb103]
                               refine sp_bo.f (fun z => hw0 ?_)
                               exact ⟨(z.2 k (by omega)).1, fun q hq => (z.2 k (by omega)).2 q (by omega)⟩)
                            | (refine hw.iff ⟨fun z => ⟨hu0.1, fun q hq => ?_⟩, fun z => ⟨(z.2 k (by omega)).1, fun q hq => (z.2 k (by omega)).2 q (by omega)⟩⟩
                               rcases Nat.lt_or_ge q k with q9 | q9
                               · exact hu0.2 q q9
                               · obtain rfl : q = k := by omega
                                 exact ⟨z.1, fun r hr => z.2 r (by omega)⟩)
                        · have hir : i < ((PT a).getD k []).length := sp_nlt hb115 (by omega)
                          refine sp_aload_n X (pc := 118) (r := some (B 0)) dX12_meets_118 rfl rfl ?_
                          refine sp_getfield X (pc := 119) (c := 13) (i := 20) (t := 2) (a := (B 0)) (v := va_rf (some (B 20))) rfl hVm.r.o (by decide) rfl (congrArg va_rf hVm.f20) fl_Mo_54 dX12_meets_119 ?_
                          refine sp_bipush X (pc := 122) (v := 16) dX12_meets_122 (by decide) ?_
                          refine sp_iload X (pc := 124) (x := nI (8 * a + k)) dX12_meets_124 rfl ?_
                          refine sp_imul X (pc := 126) dX12_meets_126 ?_
                          rw [show (16 * (nI (8 * a + k))) = (nI (16 * (8 * a + k))) from (sp_mul 16 (8 * a + k))]
                          refine sp_iload X (pc := 127) (x := nI i) dX12_meets_127 rfl ?_
                          refine sp_iadd X (pc := 129) dX12_meets_129 ?_
                          rw [show ((nI (16 * (8 * a + k))) + (nI i)) = (nI ((16 * (8 * a + k)) + i)) from (nI_add (16 * (8 * a + k)) i)]
                          refine sp_iaload X (pc := 130) (a := (B 20)) rfl (Or.inl hVm.y20) (sp_in ((16 * (8 * a + k)) + i) hVm.l20 (by omega) (by decide)) dX12_meets_130 ?_
                          rw [show (m.aI (B 20) (nI ((16 * (8 * a + k)) + i)).toNatClampNeg) = (m.aI (B 20) ((16 * (8 * a + k)) + i)) from (congrArg _ (nI_clamp (n := ((16 * (8 * a + k)) + i)) (by omega)))]
                          rw [show (m.aI (B 20) ((16 * (8 * a + k)) + i)) = (((PT a).getD k []).getD i 0) from (xa.2 i hir)]
                          refine sp_istore X (pc := 131) (lv' := [(8, false, .int (((PT a).getD k []).getD i 0)), (0, false, va_rf (some (B 0))), (1, false, .int (nI a)), (2, false, .int (nI c)), (3, false, .int wv), (4, false, .int (nI k)), (5, false, .int (nI (8 * a + k))), (6, false, .int (nI (8 * c + k))), (7, false, .int (nI i))]) dX12_meets_131  (by decide) rfl ?_
                          refine sp_aload_n X (pc := 133) (r := some (B 0)) dX12_meets_133 rfl rfl ?_
                          refine sp_getfield X (pc := 134) (c := 13) (i := 20) (t := 2) (a := (B 0)) (v := va_rf (some (B 20))) rfl hVm.r.o (by decide) rfl (congrArg va_rf hVm.f20) fl_Mo_54 dX12_meets_134 ?_
                          refine sp_bipush X (pc := 137) (v := 16) dX12_meets_137 (by decide) ?_
                          refine sp_iload X (pc := 139) (x := nI (8 * c + k)) dX12_meets_139 rfl ?_
                          refine sp_imul X (pc := 141) dX12_meets_141 ?_
                          rw [show (16 * (nI (8 * c + k))) = (nI (16 * (8 * c + k))) from (sp_mul 16 (8 * c + k))]
                          refine sp_iload X (pc := 142) (x := nI i) dX12_meets_142 rfl ?_
                          refine sp_iadd X (pc := 144) dX12_meets_144 ?_
                          rw [show ((nI (16 * (8 * c + k))) + (nI i)) = (nI ((16 * (8 * c + k)) + i)) from (nI_add (16 * (8 * c + k)) i)]
                          refine sp_iaload X (pc := 145) (a := (B 20)) rfl (Or.inl hVm.y20) (sp_in ((16 * (8 * c + k)) + i) hVm.l20 (by omega) (by decide)) dX12_meets_145 ?_
                          rw [show (m.aI (B 20) (nI ((16 * (8 * c + k)) + i)).toNatClampNeg) = (m.aI (B 20) ((16 * (8 * c + k)) + i)) from (congrArg _ (nI_clamp (n := ((16 * (8 * c + k)) + i)) (by omega)))]
                          rw [show (m.aI (B 20) ((16 * (8 * c + k)) + i)) = (((PT c).getD k []).getD i 0) from (xc.2 i (by have := hw0.1; omega))]
                          refine sp_istore X (pc := 146) (lv' := [(9, false, .int (((PT c).getD k []).getD i 0)), (8, false, .int (((PT a).getD k []).getD i 0)), (0, false, va_rf (some (B 0))), (1, false, .int (nI a)), (2, false, .int (nI c)), (3, false, .int wv), (4, false, .int (nI k)), (5, false, .int (nI (8 * a + k))), (6, false, .int (nI (8 * c + k))), (7, false, .int (nI i))]) dX12_meets_146  (by decide) rfl ?_
                          refine sp_iload X (pc := 148) (x := (((PT a).getD k []).getD i 0)) dX12_meets_148 rfl ?_
                          refine sp_iload X (pc := 150) (x := (((PT c).getD k []).getD i 0)) dX12_meets_150 rfl ?_
                          refine sp_icmp_eq X (pc := 152) (tgt := 176) dX12_meets_152 (by decide) (fun hb152 => ?_) (fun hb152 => ?_)
                          · refine sp_iconst X (pc := 176) (v := 1) dX12_meets_176 (by decide) ?_
                            refine sp_goto X (pc := 177) (tgt := 181) dX12_meets_177 (by decide) ?_
                            refine sp_istore_n X (pc := 181) (lv' := [(3, false, .int 1), (9, false, .int (((PT c).getD k []).getD i 0)), (8, false, .int (((PT a).getD k []).getD i 0)), (0, false, va_rf (some (B 0))), (1, false, .int (nI a)), (2, false, .int (nI c)), (4, false, .int (nI k)), (5, false, .int (nI (8 * a + k))), (6, false, .int (nI (8 * c + k))), (7, false, .int (nI i))]) dX12_meets_181 rfl (by decide) rfl ?_
                            refine sp_iinc X (pc := 182) (v := (nI (i + 1))) (lv' := [(7, false, .int (nI (i + 1))), (3, false, .int 1), (9, false, .int (((PT c).getD k []).getD i 0)), (8, false, .int (((PT a).getD k []).getD i 0)), (0, false, va_rf (some (B 0))), (1, false, .int (nI a)), (2, false, .int (nI c)), (4, false, .int (nI k)), (5, false, .int (nI (8 * a + k))), (6, false, .int (nI (8 * c + k)))]) dX12_meets_182 rfl ((sp_i1 i)) (by decide) rfl ?_
                            refine sp_goto X (pc := 185) (tgt := 102) dX12_meets_185 (by decide) ?_
                            refine sp_pick X [4, 5, 6, 1, 7, 8, 9, 0] (lv' := [(0, false, va_rf (some (B 0))), (1, false, .int (nI a)), (2, false, .int (nI c)), (3, false, .int 1), (4, false, .int (nI k)), (5, false, .int (nI (8 * a + k))), (6, false, .int (nI (8 * c + k))), (7, false, .int (nI (i + 1)))]) rfl ?_
                            have hstep : ∀ P9 : Prop, (P9 ↔ (((PT a).getD k []).getD i 0 = ((PT c).getD k []).getD i 0 ∨ (¬ sp_hr R 2 = 0 ∧ sp_sm (((PT a).getD k []).getD i 0) = sp_sm (((PT c).getD k []).getD i 0)))) → (P9 ↔ (((PT a).getD k []).length = ((PT c).getD k []).length ∧ ∀ q, q < i + 1 → (((PT a).getD k []).getD q 0 = ((PT c).getD k []).getD q 0 ∨ (¬ sp_hr R 2 = 0 ∧ sp_sm (((PT a).getD k []).getD q 0) = sp_sm (((PT c).getD k []).getD q 0))))) := fun _ h => ⟨fun z => ⟨hw0.1, fun q hq => by
                              rcases Nat.lt_or_ge q i with q9 | q9
                              · exact hw0.2 q q9
                              · obtain rfl : q = i := by omega
                                exact h.mp z⟩, fun z => h.mpr (z.2 i (by omega))⟩
                            refine ih _ (by omega) _ (i + 1) (by omega) ?_ rfl
                            first
                              | exact (sp_bo.t (p := True) trivial).iff (hstep _ ⟨fun _ => Or.inl hb152, fun _ => trivial⟩)
                              | exact (sp_bo.t (p := True) trivial).iff (hstep _ ⟨fun _ => Or.inr ⟨hb160, hb173⟩, fun _ => trivial⟩)
                              | exact (sp_bo.f (p := False) id).iff (hstep _ ⟨False.elim, fun z => z.elim hb152 (fun y => y.1 hb160)⟩)
                              | exact (sp_bo.f (p := False) id).iff (hstep _ ⟨False.elim, fun z => z.elim hb152 (fun y => hb173 y.2)⟩)
                          · refine sp_aload_n X (pc := 155) (r := some (B 0)) dX12_meets_155 rfl rfl ?_
                            refine sp_iconst X (pc := 156) (v := 2) dX12_meets_156 (by decide) ?_
                            refine sp_callV X (pc := 157) (mc := 0) (ms := 0) (b := (B 0)) (c := 13) (r := some (B 0)) (As := [.int 2]) (rest := []) (c_Mo_hasRule l G _ hVm) ok_Mo_hasRule rfl hVm.r.o (by decide) rfl lk_Mo_118 rfl rfl (Nat.zero_le _) (Nat.le_of_ble_eq_true rfl) (Nat.le_of_ble_eq_true rfl) (Nat.zero_le _) (Nat.zero_le _) dX12_meets_157 (sp_kI fun v157 m157 hp157 => ?_)
                            obtain ⟨hp157v, hp157⟩ := hp157; replace hp157 := (hp157).symm; subst hp157; replace hp157v := (hp157v).symm; subst hp157v
                            refine sp_if_eq X (pc := 160) (tgt := 180) dX12_meets_160 (by decide) (fun hb160 => ?_) (fun hb160 => ?_)
                            · refine sp_iconst X (pc := 180) (v := 0) dX12_meets_180 (by decide) ?_
                              refine sp_istore_n X (pc := 181) (lv' := [(3, false, .int 0), (9, false, .int (((PT c).getD k []).getD i 0)), (8, false, .int (((PT a).getD k []).getD i 0)), (0, false, va_rf (some (B 0))), (1, false, .int (nI a)), (2, false, .int (nI c)), (4, false, .int (nI k)), (5, false, .int (nI (8 * a + k))), (6, false, .int (nI (8 * c + k))), (7, false, .int (nI i))]) dX12_meets_181 rfl (by decide) rfl ?_
                              refine sp_iinc X (pc := 182) (v := (nI (i + 1))) (lv' := [(7, false, .int (nI (i + 1))), (3, false, .int 0), (9, false, .int (((PT c).getD k []).getD i 0)), (8, false, .int (((PT a).getD k []).getD i 0)), (0, false, va_rf (some (B 0))), (1, false, .int (nI a)), (2, false, .int (nI c)), (4, false, .int (nI k)), (5, false, .int (nI (8 * a + k))), (6, false, .int (nI (8 * c + k)))]) dX12_meets_182 rfl ((sp_i1 i)) (by decide) rfl ?_
                              refine sp_goto X (pc := 185) (tgt := 102) dX12_meets_185 (by decide) ?_
                              refine sp_pick X [4, 5, 6, 1, 7, 8, 9, 0] (lv' := [(0, false, va_rf (some (B 0))), (1, false, .int (nI a)), (2, false, .int (nI c)), (3, false, .int 0), (4, false, .int (nI k)), (5, false, .int (nI (8 * a + k))), (6, false, .int (nI (8 * c + k))), (7, false, .int (nI (i + 1)))]) rfl ?_
                              have hstep : ∀ P9 : Prop, (P9 ↔ (((PT a).getD k []).getD i 0 = ((PT c).getD k []).getD i 0 ∨ (¬ sp_hr R 2 = 0 ∧ sp_sm (((PT a).getD k []).getD i 0) = sp_sm (((PT c).getD k []).getD i 0)))) → (P9 ↔ (((PT a).getD k []).length = ((PT c).getD k []).length ∧ ∀ q, q < i + 1 → (((PT a).getD k []).getD q 0 = ((PT c).getD k []).getD q 0 ∨ (¬ sp_hr R 2 = 0 ∧ sp_sm (((PT a).getD k []).getD q 0) = sp_sm (((PT c).getD k []).getD q 0))))) := fun _ h => ⟨fun z => ⟨hw0.1, fun q hq => by
                                rcases Nat.lt_or_ge q i with q9 | q9
                                · exact hw0.2 q q9
                                · obtain rfl : q = i := by omega
                                  exact h.mp z⟩, fun z => h.mpr (z.2 i (by omega))⟩
                              refine ih _ (by omega) _ (i + 1) (by omega) ?_ rfl
                              first
                                | exact (sp_bo.t (p := True) trivial).iff (hstep _ ⟨fun _ => Or.inl hb152, fun _ => trivial⟩)
                                | exact (sp_bo.t (p := True) trivial).iff (hstep _ ⟨fun _ => Or.inr ⟨hb160, hb173⟩, fun _ => trivial⟩)
                                | exact (sp_bo.f (p := False) id).iff (hstep _ ⟨False.elim, fun z => z.elim hb152 (fun y => y.1 hb160)⟩)
                                | exact (sp_bo.f (p := False) id).iff (hstep _ ⟨False.elim, fun z => z.elim hb152 (fun y => hb173 y.2)⟩)
                            · refine sp_iload X (pc := 163) (x := (((PT a).getD k []).getD i 0)) dX12_meets_163 rfl ?_
                              refine sp_callS X (pc := 165) (mc := 0) (ms := 0) (As := [.int (((PT a).getD k []).getD i 0)]) (rest := []) (c_Mo_small l G _) ok_Mo_small lk_Mo_128 rfl rfl (Nat.zero_le _) (Nat.le_of_ble_eq_true rfl) (Nat.le_of_ble_eq_true rfl) (Nat.zero_le _) (Nat.zero_le _) dX12_meets_165 (sp_kI fun v165 m165 hp165 => ?_)
                              obtain ⟨hp165v, hp165⟩ := hp165; replace hp165 := (hp165).symm; subst hp165; replace hp165v := (hp165v).symm; subst hp165v
                              refine sp_iload X (pc := 168) (x := (((PT c).getD k []).getD i 0)) dX12_meets_168 rfl ?_
                              refine sp_callS X (pc := 170) (mc := 0) (ms := 0) (As := [.int (((PT c).getD k []).getD i 0)]) (rest := [.int (sp_sm (((PT a).getD k []).getD i 0))]) (c_Mo_small l G _) ok_Mo_small lk_Mo_128 rfl rfl (by simp [sp_cat_rf, sp_cat_i, sp_cat_l]) (Nat.le_of_ble_eq_true rfl) (Nat.le_of_ble_eq_true rfl) (Nat.zero_le _) (Nat.zero_le _) dX12_meets_170 (sp_kI fun v170 m170 hp170 => ?_)
                              obtain ⟨hp170v, hp170⟩ := hp170; replace hp170 := (hp170).symm; subst hp170; replace hp170v := (hp170v).symm; subst hp170v
                              refine sp_icmp_ne X (pc := 173) (tgt := 180) dX12_meets_173 (by decide) (fun hb173 => ?_) (fun hb173 => ?_)
                              · refine sp_iconst X (pc := 180) (v := 0) dX12_meets_180 (by decide) ?_
                                refine sp_istore_n X (pc := 181) (lv' := [(3, false, .int 0), (9, false, .int (((PT c).getD k []).getD i 0)), (8, false, .int (((PT a).getD k []).getD i 0)), (0, false, va_rf (some (B 0))), (1, false, .int (nI a)), (2, false, .int (nI c)), (4, false, .int (nI k)), (5, false, .int (nI (8 * a + k))), (6, false, .int (nI (8 * c + k))), (7, false, .int (nI i))]) dX12_meets_181 rfl (by decide) rfl ?_
                                refine sp_iinc X (pc := 182) (v := (nI (i + 1))) (lv' := [(7, false, .int (nI (i + 1))), (3, false, .int 0), (9, false, .int (((PT c).getD k []).getD i 0)), (8, false, .int (((PT a).getD k []).getD i 0)), (0, false, va_rf (some (B 0))), (1, false, .int (nI a)), (2, false, .int (nI c)), (4, false, .int (nI k)), (5, false, .int (nI (8 * a + k))), (6, false, .int (nI (8 * c + k)))]) dX12_meets_182 rfl ((sp_i1 i)) (by decide) rfl ?_
                                refine sp_goto X (pc := 185) (tgt := 102) dX12_meets_185 (by decide) ?_
                                refine sp_pick X [4, 5, 6, 1, 7, 8, 9, 0] (lv' := [(0, false, va_rf (some (B 0))), (1, false, .int (nI a)), (2, false, .int (nI c)), (3, false, .int 0), (4, false, .int (nI k)), (5, false, .int (nI (8 * a + k))), (6, false, .int (nI (8 * c + k))), (7, false, .int (nI (i + 1)))]) rfl ?_
                                have hstep : ∀ P9 : Prop, (P9 ↔ (((PT a).getD k []).getD i 0 = ((PT c).getD k []).getD i 0 ∨ (¬ sp_hr R 2 = 0 ∧ sp_sm (((PT a).getD k []).getD i 0) = sp_sm (((PT c).getD k []).getD i 0)))) → (P9 ↔ (((PT a).getD k []).length = ((PT c).getD k []).length ∧ ∀ q, q < i + 1 → (((PT a).getD k []).getD q 0 = ((PT c).getD k []).getD q 0 ∨ (¬ sp_hr R 2 = 0 ∧ sp_sm (((PT a).getD k []).getD q 0) = sp_sm (((PT c).getD k []).getD q 0))))) := fun _ h => ⟨fun z => ⟨hw0.1, fun q hq => by
                                  rcases Nat.lt_or_ge q i with q9 | q9
                                  · exact hw0.2 q q9
                                  · obtain rfl : q = i := by omega
                                    exact h.mp z⟩, fun z => h.mpr (z.2 i (by omega))⟩
                                refine ih _ (by omega) _ (i + 1) (by omega) ?_ rfl
                                first
                                  | exact (sp_bo.t (p := True) trivial).iff (hstep _ ⟨fun _ => Or.inl hb152, fun _ => trivial⟩)
                                  | exact (sp_bo.t (p := True) trivial).iff (hstep _ ⟨fun _ => Or.inr ⟨hb160, hb173⟩, fun _ => trivial⟩)
                                  | exact (sp_bo.f (p := False) id).iff (hstep _ ⟨False.elim, fun z => z.elim hb152 (fun y => y.1 hb160)⟩)
                                  | exact (sp_bo.f (p := False) id).iff (hstep _ ⟨False.elim, fun z => z.elim hb152 (fun y => hb173 y.2)⟩)
                              · refine sp_iconst X (pc := 176) (v := 1) dX12_meets_176 (by decide) ?_
                                refine sp_goto X (pc := 177) (tgt := 181) dX12_meets_177 (by decide) ?_
                                refine sp_istore_n X (pc := 181) (lv' := [(3, false, .int 1), (9, false, .int (((PT c).getD k []).getD i 0)), (8, false, .int (((PT a).getD k []).getD i 0)), (0, false, va_rf (some (B 0))), (1, false, .int (nI a)), (2, false, .int (nI c)), (4, false, .int (nI k)), (5, false, .int (nI (8 * a + k))), (6, false, .int (nI (8 * c + k))), (7, false, .int (nI i))]) dX12_meets_181 rfl (by decide) rfl ?_
                                refine sp_iinc X (pc := 182) (v := (nI (i + 1))) (lv' := [(7, false, .int (nI (i + 1))), (3, false, .int 1), (9, false, .int (((PT c).getD k []).getD i 0)), (8, false, .int (((PT a).getD k []).getD i 0)), (0, false, va_rf (some (B 0))), (1, false, .int (nI a)), (2, false, .int (nI c)), (4, false, .int (nI k)), (5, false, .int (nI (8 * a + k))), (6, false, .int (nI (8 * c + k)))]) dX12_meets_182 rfl ((sp_i1 i)) (by decide) rfl ?_
                                refine sp_goto X (pc := 185) (tgt := 102) dX12_meets_185 (by decide) ?_
                                refine sp_pick X [4, 5, 6, 1, 7, 8, 9, 0] (lv' := [(0, false, va_rf (some (B 0))), (1, false, .int (nI a)), (2, false, .int (nI c)), (3, false, .int 1), (4, false, .int (nI k)), (5, false, .int (nI (8 * a + k))), (6, false, .int (nI (8 * c + k))), (7, false, .int (nI (i + 1)))]) rfl ?_
                                have hstep : ∀ P9 : Prop, (P9 ↔ (((PT a).getD k []).getD i 0 = ((PT c).getD k []).getD i 0 ∨ (¬ sp_hr R 2 = 0 ∧ sp_sm (((PT a).getD k []).getD i 0) = sp_sm (((PT c).getD k []).getD i 0)))) → (P9 ↔ (((PT a).getD k []).length = ((PT c).getD k []).length ∧ ∀ q, q < i + 1 → (((PT a).getD k []).getD q 0 = ((PT c).getD k []).getD q 0 ∨ (¬ sp_hr R 2 = 0 ∧ sp_sm (((PT a).getD k []).getD q 0) = sp_sm (((PT c).getD k []).getD q 0))))) := fun _ h => ⟨fun z => ⟨hw0.1, fun q hq => by
                                  rcases Nat.lt_or_ge q i with q9 | q9
                                  · exact hw0.2 q q9
                                  · obtain rfl : q = i := by omega
                                    exact h.mp z⟩, fun z => h.mpr (z.2 i (by omega))⟩
                                refine ih _ (by omega) _ (i + 1) (by omega) ?_ rfl
                                first
                                  | exact (sp_bo.t (p := True) trivial).iff (hstep _ ⟨fun _ => Or.inl hb152, fun _ => trivial⟩)
                                  | exact (sp_bo.t (p := True) trivial).iff (hstep _ ⟨fun _ => Or.inr ⟨hb160, hb173⟩, fun _ => trivial⟩)
                                  | exact (sp_bo.f (p := False) id).iff (hstep _ ⟨False.elim, fun z => z.elim hb152 (fun y => y.1 hb160)⟩)
                                  | exact (sp_bo.f (p := False) id).iff (hstep _ ⟨False.elim, fun z => z.elim hb152 (fun y => hb173 y.2)⟩)
                  refine sp_pick X [4, 5, 6, 1, 7, 3, 2, 0] (lv' := [(0, false, va_rf (some (B 0))), (1, false, .int (nI a)), (2, false, .int (nI c)), (3, false, .int 0), (4, false, .int (nI k)), (5, false, .int (nI ((8 * a) + k))), (6, false, .int (nI ((8 * c) + k))), (7, false, .int 0)]) rfl ?_
                  first
                    | exact loop102 _ _ 0 (Nat.zero_le _) (sp_bo.t ⟨hl2, fun q z => absurd z (Nat.not_lt_zero _)⟩) rfl
                    | exact loop102 _ _ 0 (Nat.zero_le _) (sp_bo.f (fun z => hl2 z.1)) rfl
                · have hl2 : ((PT a).getD k []).length = ((PT c).getD k []).length := sp_neq hb90 (by omega) (by omega)
                  refine sp_iconst X (pc := 93) (v := 1) dX12_meets_93 (by decide) ?_
                  refine sp_goto X (pc := 94) (tgt := 98) dX12_meets_94 (by decide) ?_
                  refine sp_istore_n X (pc := 98) (lv' := [(3, false, .int 1), (6, false, .int (nI ((8 * c) + k))), (5, false, .int (nI ((8 * a) + k))), (0, false, va_rf (some (B 0))), (1, false, .int (nI a)), (2, false, .int (nI c)), (4, false, .int (nI k))]) dX12_meets_98 rfl (by decide) rfl ?_
                  refine sp_iconst X (pc := 99) (v := 0) dX12_meets_99 (by decide) ?_
                  refine sp_istore X (pc := 100) (lv' := [(7, false, .int 0), (3, false, .int 1), (6, false, .int (nI ((8 * c) + k))), (5, false, .int (nI ((8 * a) + k))), (0, false, va_rf (some (B 0))), (1, false, .int (nI a)), (2, false, .int (nI c)), (4, false, .int (nI k))]) dX12_meets_100  (by decide) rfl ?_
                  have loop102 : ∀ (dz : Nat) (wv : Int32) (i : Nat), i ≤ ((PT a).getD k []).length → sp_bo wv (((PT a).getD k []).length = ((PT c).getD k []).length ∧ ∀ q, q < i → (((PT a).getD k []).getD q 0 = ((PT c).getD k []).getD q 0 ∨ (¬ sp_hr R 2 = 0 ∧ sp_sm (((PT a).getD k []).getD q 0) = sp_sm (((PT c).getD k []).getD q 0)))) → ((PT a).getD k []).length - i = dz → w 0 0 m 102 [(0, false, va_rf (some (B 0))), (1, false, .int (nI a)), (2, false, .int (nI c)), (3, false, .int wv), (4, false, .int (nI k)), (5, false, .int (nI (8 * a + k))), (6, false, .int (nI (8 * c + k))), (7, false, .int (nI i))] [] := by
                    intro dz
                    induction dz using Nat.strongRecOn with
                    | ind dz ih =>
                      intro wv i hi hw hdz
                      refine sp_iload_n X (pc := 102) (x := wv) dX12_meets_102 rfl rfl ?_
                      refine sp_if_eq X (pc := 103) (tgt := 188) dX12_meets_103 (by decide) (fun hb103 => ?_) (fun hb103 => ?_)
                      · have hw0 := hw.eq hb103
                        refine sp_iinc X (pc := 188) (v := (nI (k + 1))) (lv' := [(4, false, .int (nI (k + 1))), (0, false, va_rf (some (B 0))), (1, false, .int (nI a)), (2, false, .int (nI c)), (3, false, .int wv), (5, false, .int (nI (8 * a + k))), (6, false, .int (nI (8 * c + k))), (7, false, .int (nI i))]) dX12_meets_188 rfl ((sp_i1 k)) (by decide) rfl ?_
                        refine sp_goto X (pc := 191) (tgt := 43) dX12_meets_191 (by decide) ?_
                        refine sp_pick X [1, 2, 3, 4, 0] (lv' := [(0, false, va_rf (some (B 0))), (1, false, .int (nI a)), (2, false, .int (nI c)), (3, false, .int wv), (4, false, .int (nI (k + 1)))]) rfl ?_
                        refine ihA _ (by omega) _ (k + 1) (by omega) ?_ rfl
                        first
                          | (rw [hb103]
                             refine sp_bo.f (fun z => hw0 ?_)
                             exact ⟨(z.2 k (by omega)).1, fun q hq => (z.2 k (by omega)).2 q (by omega)⟩)
                          | (refine hw.iff ⟨fun z => ⟨hu0.1, fun q hq => ?_⟩, fun z => ⟨(z.2 k (by omega)).1, fun q hq => (z.2 k (by omega)).2 q (by omega)⟩⟩
                             rcases Nat.lt_or_ge q k with q9 | q9
                             · exact hu0.2 q q9
                             · obtain rfl : q = k := by omega
                               exact ⟨z.1, fun r hr => z.2 r (by omega)⟩)
                      · have hw0 := hw.ne hb103
                        refine sp_iload X (pc := 106) (x := nI i) dX12_meets_106 rfl ?_
                        refine sp_aload_n X (pc := 108) (r := some (B 0)) dX12_meets_108 rfl rfl ?_
                        refine sp_getfield X (pc := 109) (c := 13) (i := 19) (t := 2) (a := (B 0)) (v := va_rf (some (B 19))) rfl hVm.r.o (by decide) rfl (congrArg va_rf hVm.f19) fl_Mo_51 dX12_meets_109 ?_
                        refine sp_iload X (pc := 112) (x := nI (8 * a + k)) dX12_meets_112 rfl ?_
                        refine sp_iaload X (pc := 114) (a := (B 19)) rfl (Or.inl hVm.y19) (sp_in (8 * a + k) hVm.l19 (by omega) (by decide)) dX12_meets_114 ?_
                        rw [show (m.aI (B 19) (nI (8 * a + k)).toNatClampNeg) = (m.aI (B 19) (8 * a + k)) from (congrArg _ (nI_clamp (n := (8 * a + k)) (by omega)))]
                        rw [show (m.aI (B 19) (8 * a + k)) = (nI ((PT a).getD k []).length) from xa.1]
                        refine sp_icmp_ge X (pc := 115) (tgt := 188) dX12_meets_115 (by decide) (fun hb115 => ?_) (fun hb115 => ?_)
                        · have hir : ((PT a).getD k []).length ≤ i := sp_nge hb115 (by omega) (by omega)
                          refine sp_iinc X (pc := 188) (v := (nI (k + 1))) (lv' := [(4, false, .int (nI (k + 1))), (0, false, va_rf (some (B 0))), (1, false, .int (nI a)), (2, false, .int (nI c)), (3, false, .int wv), (5, false, .int (nI (8 * a + k))), (6, false, .int (nI (8 * c + k))), (7, false, .int (nI i))]) dX12_meets_188 rfl ((sp_i1 k)) (by decide) rfl ?_
                          refine sp_goto X (pc := 191) (tgt := 43) dX12_meets_191 (by decide) ?_
                          refine sp_pick X [1, 2, 3, 4, 0] (lv' := [(0, false, va_rf (some (B 0))), (1, false, .int (nI a)), (2, false, .int (nI c)), (3, false, .int wv), (4, false, .int (nI (k + 1)))]) rfl ?_
                          refine ihA _ (by omega) _ (k + 1) (by omega) ?_ rfl
                          first
                            | (rw [hb103]
                               refine sp_bo.f (fun z => hw0 ?_)
                               exact ⟨(z.2 k (by omega)).1, fun q hq => (z.2 k (by omega)).2 q (by omega)⟩)
                            | (refine hw.iff ⟨fun z => ⟨hu0.1, fun q hq => ?_⟩, fun z => ⟨(z.2 k (by omega)).1, fun q hq => (z.2 k (by omega)).2 q (by omega)⟩⟩
                               rcases Nat.lt_or_ge q k with q9 | q9
                               · exact hu0.2 q q9
                               · obtain rfl : q = k := by omega
                                 exact ⟨z.1, fun r hr => z.2 r (by omega)⟩)
                        · have hir : i < ((PT a).getD k []).length := sp_nlt hb115 (by omega)
                          refine sp_aload_n X (pc := 118) (r := some (B 0)) dX12_meets_118 rfl rfl ?_
                          refine sp_getfield X (pc := 119) (c := 13) (i := 20) (t := 2) (a := (B 0)) (v := va_rf (some (B 20))) rfl hVm.r.o (by decide) rfl (congrArg va_rf hVm.f20) fl_Mo_54 dX12_meets_119 ?_
                          refine sp_bipush X (pc := 122) (v := 16) dX12_meets_122 (by decide) ?_
                          refine sp_iload X (pc := 124) (x := nI (8 * a + k)) dX12_meets_124 rfl ?_
                          refine sp_imul X (pc := 126) dX12_meets_126 ?_
                          rw [show (16 * (nI (8 * a + k))) = (nI (16 * (8 * a + k))) from (sp_mul 16 (8 * a + k))]
                          refine sp_iload X (pc := 127) (x := nI i) dX12_meets_127 rfl ?_
                          refine sp_iadd X (pc := 129) dX12_meets_129 ?_
                          rw [show ((nI (16 * (8 * a + k))) + (nI i)) = (nI ((16 * (8 * a + k)) + i)) from (nI_add (16 * (8 * a + k)) i)]
                          refine sp_iaload X (pc := 130) (a := (B 20)) rfl (Or.inl hVm.y20) (sp_in ((16 * (8 * a + k)) + i) hVm.l20 (by omega) (by decide)) dX12_meets_130 ?_
                          rw [show (m.aI (B 20) (nI ((16 * (8 * a + k)) + i)).toNatClampNeg) = (m.aI (B 20) ((16 * (8 * a + k)) + i)) from (congrArg _ (nI_clamp (n := ((16 * (8 * a + k)) + i)) (by omega)))]
                          rw [show (m.aI (B 20) ((16 * (8 * a + k)) + i)) = (((PT a).getD k []).getD i 0) from (xa.2 i hir)]
                          refine sp_istore X (pc := 131) (lv' := [(8, false, .int (((PT a).getD k []).getD i 0)), (0, false, va_rf (some (B 0))), (1, false, .int (nI a)), (2, false, .int (nI c)), (3, false, .int wv), (4, false, .int (nI k)), (5, false, .int (nI (8 * a + k))), (6, false, .int (nI (8 * c + k))), (7, false, .int (nI i))]) dX12_meets_131  (by decide) rfl ?_
                          refine sp_aload_n X (pc := 133) (r := some (B 0)) dX12_meets_133 rfl rfl ?_
                          refine sp_getfield X (pc := 134) (c := 13) (i := 20) (t := 2) (a := (B 0)) (v := va_rf (some (B 20))) rfl hVm.r.o (by decide) rfl (congrArg va_rf hVm.f20) fl_Mo_54 dX12_meets_134 ?_
                          refine sp_bipush X (pc := 137) (v := 16) dX12_meets_137 (by decide) ?_
                          refine sp_iload X (pc := 139) (x := nI (8 * c + k)) dX12_meets_139 rfl ?_
                          refine sp_imul X (pc := 141) dX12_meets_141 ?_
                          rw [show (16 * (nI (8 * c + k))) = (nI (16 * (8 * c + k))) from (sp_mul 16 (8 * c + k))]
                          refine sp_iload X (pc := 142) (x := nI i) dX12_meets_142 rfl ?_
                          refine sp_iadd X (pc := 144) dX12_meets_144 ?_
                          rw [show ((nI (16 * (8 * c + k))) + (nI i)) = (nI ((16 * (8 * c + k)) + i)) from (nI_add (16 * (8 * c + k)) i)]
                          refine sp_iaload X (pc := 145) (a := (B 20)) rfl (Or.inl hVm.y20) (sp_in ((16 * (8 * c + k)) + i) hVm.l20 (by omega) (by decide)) dX12_meets_145 ?_
                          rw [show (m.aI (B 20) (nI ((16 * (8 * c + k)) + i)).toNatClampNeg) = (m.aI (B 20) ((16 * (8 * c + k)) + i)) from (congrArg _ (nI_clamp (n := ((16 * (8 * c + k)) + i)) (by omega)))]
                          rw [show (m.aI (B 20) ((16 * (8 * c + k)) + i)) = (((PT c).getD k []).getD i 0) from (xc.2 i (by have := hw0.1; omega))]
                          refine sp_istore X (pc := 146) (lv' := [(9, false, .int (((PT c).getD k []).getD i 0)), (8, false, .int (((PT a).getD k []).getD i 0)), (0, false, va_rf (some (B 0))), (1, false, .int (nI a)), (2, false, .int (nI c)), (3, false, .int wv), (4, false, .int (nI k)), (5, false, .int (nI (8 * a + k))), (6, false, .int (nI (8 * c + k))), (7, false, .int (nI i))]) dX12_meets_146  (by decide) rfl ?_
                          refine sp_iload X (pc := 148) (x := (((PT a).getD k []).getD i 0)) dX12_meets_148 rfl ?_
                          refine sp_iload X (pc := 150) (x := (((PT c).getD k []).getD i 0)) dX12_meets_150 rfl ?_
                          refine sp_icmp_eq X (pc := 152) (tgt := 176) dX12_meets_152 (by decide) (fun hb152 => ?_) (fun hb152 => ?_)
                          · refine sp_iconst X (pc := 176) (v := 1) dX12_meets_176 (by decide) ?_
                            refine sp_goto X (pc := 177) (tgt := 181) dX12_meets_177 (by decide) ?_
                            refine sp_istore_n X (pc := 181) (lv' := [(3, false, .int 1), (9, false, .int (((PT c).getD k []).getD i 0)), (8, false, .int (((PT a).getD k []).getD i 0)), (0, false, va_rf (some (B 0))), (1, false, .int (nI a)), (2, false, .int (nI c)), (4, false, .int (nI k)), (5, false, .int (nI (8 * a + k))), (6, false, .int (nI (8 * c + k))), (7, false, .int (nI i))]) dX12_meets_181 rfl (by decide) rfl ?_
                            refine sp_iinc X (pc := 182) (v := (nI (i + 1))) (lv' := [(7, false, .int (nI (i + 1))), (3, false, .int 1), (9, false, .int (((PT c).getD k []).getD i 0)), (8, false, .int (((PT a).getD k []).getD i 0)), (0, false, va_rf (some (B 0))), (1, false, .int (nI a)), (2, false, .int (nI c)), (4, false, .int (nI k)), (5, false, .int (nI (8 * a + k))), (6, false, .int (nI (8 * c + k)))]) dX12_meets_182 rfl ((sp_i1 i)) (by decide) rfl ?_
                            refine sp_goto X (pc := 185) (tgt := 102) dX12_meets_185 (by decide) ?_
                            refine sp_pick X [4, 5, 6, 1, 7, 8, 9, 0] (lv' := [(0, false, va_rf (some (B 0))), (1, false, .int (nI a)), (2, false, .int (nI c)), (3, false, .int 1), (4, false, .int (nI k)), (5, false, .int (nI (8 * a + k))), (6, false, .int (nI (8 * c + k))), (7, false, .int (nI (i + 1)))]) rfl ?_
                            have hstep : ∀ P9 : Prop, (P9 ↔ (((PT a).getD k []).getD i 0 = ((PT c).getD k []).getD i 0 ∨ (¬ sp_hr R 2 = 0 ∧ sp_sm (((PT a).getD k []).getD i 0) = sp_sm (((PT c).getD k []).getD i 0)))) → (P9 ↔ (((PT a).getD k []).length = ((PT c).getD k []).length ∧ ∀ q, q < i + 1 → (((PT a).getD k []).getD q 0 = ((PT c).getD k []).getD q 0 ∨ (¬ sp_hr R 2 = 0 ∧ sp_sm (((PT a).getD k []).getD q 0) = sp_sm (((PT c).getD k []).getD q 0))))) := fun _ h => ⟨fun z => ⟨hw0.1, fun q hq => by
                              rcases Nat.lt_or_ge q i with q9 | q9
                              · exact hw0.2 q q9
                              · obtain rfl : q = i := by omega
                                exact h.mp z⟩, fun z => h.mpr (z.2 i (by omega))⟩
                            refine ih _ (by omega) _ (i + 1) (by omega) ?_ rfl
                            first
                              | exact (sp_bo.t (p := True) trivial).iff (hstep _ ⟨fun _ => Or.inl hb152, fun _ => trivial⟩)
                              | exact (sp_bo.t (p := True) trivial).iff (hstep _ ⟨fun _ => Or.inr ⟨hb160, hb173⟩, fun _ => trivial⟩)
                              | exact (sp_bo.f (p := False) id).iff (hstep _ ⟨False.elim, fun z => z.elim hb152 (fun y => y.1 hb160)⟩)
                              | exact (sp_bo.f (p := False) id).iff (hstep _ ⟨False.elim, fun z => z.elim hb152 (fun y => hb173 y.2)⟩)
                          · refine sp_aload_n X (pc := 155) (r := some (B 0)) dX12_meets_155 rfl rfl ?_
                            refine sp_iconst X (pc := 156) (v := 2) dX12_meets_156 (by decide) ?_
                            refine sp_callV X (pc := 157) (mc := 0) (ms := 0) (b := (B 0)) (c := 13) (r := some (B 0)) (As := [.int 2]) (rest := []) (c_Mo_hasRule l G _ hVm) ok_Mo_hasRule rfl hVm.r.o (by decide) rfl lk_Mo_118 rfl rfl (Nat.zero_le _) (Nat.le_of_ble_eq_true rfl) (Nat.le_of_ble_eq_true rfl) (Nat.zero_le _) (Nat.zero_le _) dX12_meets_157 (sp_kI fun v157 m157 hp157 => ?_)
                            obtain ⟨hp157v, hp157⟩ := hp157; replace hp157 := (hp157).symm; subst hp157; replace hp157v := (hp157v).symm; subst hp157v
                            refine sp_if_eq X (pc := 160) (tgt := 180) dX12_meets_160 (by decide) (fun hb160 => ?_) (fun hb160 => ?_)
                            · refine sp_iconst X (pc := 180) (v := 0) dX12_meets_180 (by decide) ?_
                              refine sp_istore_n X (pc := 181) (lv' := [(3, false, .int 0), (9, false, .int (((PT c).getD k []).getD i 0)), (8, false, .int (((PT a).getD k []).getD i 0)), (0, false, va_rf (some (B 0))), (1, false, .int (nI a)), (2, false, .int (nI c)), (4, false, .int (nI k)), (5, false, .int (nI (8 * a + k))), (6, false, .int (nI (8 * c + k))), (7, false, .int (nI i))]) dX12_meets_181 rfl (by decide) rfl ?_
                              refine sp_iinc X (pc := 182) (v := (nI (i + 1))) (lv' := [(7, false, .int (nI (i + 1))), (3, false, .int 0), (9, false, .int (((PT c).getD k []).getD i 0)), (8, false, .int (((PT a).getD k []).getD i 0)), (0, false, va_rf (some (B 0))), (1, false, .int (nI a)), (2, false, .int (nI c)), (4, false, .int (nI k)), (5, false, .int (nI (8 * a + k))), (6, false, .int (nI (8 * c + k)))]) dX12_meets_182 rfl ((sp_i1 i)) (by decide) rfl ?_
                              refine sp_goto X (pc := 185) (tgt := 102) dX12_meets_185 (by decide) ?_
                              refine sp_pick X [4, 5, 6, 1, 7, 8, 9, 0] (lv' := [(0, false, va_rf (some (B 0))), (1, false, .int (nI a)), (2, false, .int (nI c)), (3, false, .int 0), (4, false, .int (nI k)), (5, false, .int (nI (8 * a + k))), (6, false, .int (nI (8 * c + k))), (7, false, .int (nI (i + 1)))]) rfl ?_
                              have hstep : ∀ P9 : Prop, (P9 ↔ (((PT a).getD k []).getD i 0 = ((PT c).getD k []).getD i 0 ∨ (¬ sp_hr R 2 = 0 ∧ sp_sm (((PT a).getD k []).getD i 0) = sp_sm (((PT c).getD k []).getD i 0)))) → (P9 ↔ (((PT a).getD k []).length = ((PT c).getD k []).length ∧ ∀ q, q < i + 1 → (((PT a).getD k []).getD q 0 = ((PT c).getD k []).getD q 0 ∨ (¬ sp_hr R 2 = 0 ∧ sp_sm (((PT a).getD k []).getD q 0) = sp_sm (((PT c).getD k []).getD q 0))))) := fun _ h => ⟨fun z => ⟨hw0.1, fun q hq => by
                                rcases Nat.lt_or_ge q i with q9 | q9
                                · exact hw0.2 q q9
                                · obtain rfl : q = i := by omega
                                  exact h.mp z⟩, fun z => h.mpr (z.2 i (by omega))⟩
                              refine ih _ (by omega) _ (i + 1) (by omega) ?_ rfl
                              first
                                | exact (sp_bo.t (p := True) trivial).iff (hstep _ ⟨fun _ => Or.inl hb152, fun _ => trivial⟩)
                                | exact (sp_bo.t (p := True) trivial).iff (hstep _ ⟨fun _ => Or.inr ⟨hb160, hb173⟩, fun _ => trivial⟩)
                                | exact (sp_bo.f (p := False) id).iff (hstep _ ⟨False.elim, fun z => z.elim hb152 (fun y => y.1 hb160)⟩)
                                | exact (sp_bo.f (p := False) id).iff (hstep _ ⟨False.elim, fun z => z.elim hb152 (fun y => hb173 y.2)⟩)
                            · refine sp_iload X (pc := 163) (x := (((PT a).getD k []).getD i 0)) dX12_meets_163 rfl ?_
                              refine sp_callS X (pc := 165) (mc := 0) (ms := 0) (As := [.int (((PT a).getD k []).getD i 0)]) (rest := []) (c_Mo_small l G _) ok_Mo_small lk_Mo_128 rfl rfl (Nat.zero_le _) (Nat.le_of_ble_eq_true rfl) (Nat.le_of_ble_eq_true rfl) (Nat.zero_le _) (Nat.zero_le _) dX12_meets_165 (sp_kI fun v165 m165 hp165 => ?_)
                              obtain ⟨hp165v, hp165⟩ := hp165; replace hp165 := (hp165).symm; subst hp165; replace hp165v := (hp165v).symm; subst hp165v
                              refine sp_iload X (pc := 168) (x := (((PT c).getD k []).getD i 0)) dX12_meets_168 rfl ?_
                              refine sp_callS X (pc := 170) (mc := 0) (ms := 0) (As := [.int (((PT c).getD k []).getD i 0)]) (rest := [.int (sp_sm (((PT a).getD k []).getD i 0))]) (c_Mo_small l G _) ok_Mo_small lk_Mo_128 rfl rfl (by simp [sp_cat_rf, sp_cat_i, sp_cat_l]) (Nat.le_of_ble_eq_true rfl) (Nat.le_of_ble_eq_true rfl) (Nat.zero_le _) (Nat.zero_le _) dX12_meets_170 (sp_kI fun v170 m170 hp170 => ?_)
                              obtain ⟨hp170v, hp170⟩ := hp170; replace hp170 := (hp170).symm; subst hp170; replace hp170v := (hp170v).symm; subst hp170v
                              refine sp_icmp_ne X (pc := 173) (tgt := 180) dX12_meets_173 (by decide) (fun hb173 => ?_) (fun hb173 => ?_)
                              · refine sp_iconst X (pc := 180) (v := 0) dX12_meets_180 (by decide) ?_
                                refine sp_istore_n X (pc := 181) (lv' := [(3, false, .int 0), (9, false, .int (((PT c).getD k []).getD i 0)), (8, false, .int (((PT a).getD k []).getD i 0)), (0, false, va_rf (some (B 0))), (1, false, .int (nI a)), (2, false, .int (nI c)), (4, false, .int (nI k)), (5, false, .int (nI (8 * a + k))), (6, false, .int (nI (8 * c + k))), (7, false, .int (nI i))]) dX12_meets_181 rfl (by decide) rfl ?_
                                refine sp_iinc X (pc := 182) (v := (nI (i + 1))) (lv' := [(7, false, .int (nI (i + 1))), (3, false, .int 0), (9, false, .int (((PT c).getD k []).getD i 0)), (8, false, .int (((PT a).getD k []).getD i 0)), (0, false, va_rf (some (B 0))), (1, false, .int (nI a)), (2, false, .int (nI c)), (4, false, .int (nI k)), (5, false, .int (nI (8 * a + k))), (6, false, .int (nI (8 * c + k)))]) dX12_meets_182 rfl ((sp_i1 i)) (by decide) rfl ?_
                                refine sp_goto X (pc := 185) (tgt := 102) dX12_meets_185 (by decide) ?_
                                refine sp_pick X [4, 5, 6, 1, 7, 8, 9, 0] (lv' := [(0, false, va_rf (some (B 0))), (1, false, .int (nI a)), (2, false, .int (nI c)), (3, false, .int 0), (4, false, .int (nI k)), (5, false, .int (nI (8 * a + k))), (6, false, .int (nI (8 * c + k))), (7, false, .int (nI (i + 1)))]) rfl ?_
                                have hstep : ∀ P9 : Prop, (P9 ↔ (((PT a).getD k []).getD i 0 = ((PT c).getD k []).getD i 0 ∨ (¬ sp_hr R 2 = 0 ∧ sp_sm (((PT a).getD k []).getD i 0) = sp_sm (((PT c).getD k []).getD i 0)))) → (P9 ↔ (((PT a).getD k []).length = ((PT c).getD k []).length ∧ ∀ q, q < i + 1 → (((PT a).getD k []).getD q 0 = ((PT c).getD k []).getD q 0 ∨ (¬ sp_hr R 2 = 0 ∧ sp_sm (((PT a).getD k []).getD q 0) = sp_sm (((PT c).getD k []).getD q 0))))) := fun _ h => ⟨fun z => ⟨hw0.1, fun q hq => by
                                  rcases Nat.lt_or_ge q i with q9 | q9
                                  · exact hw0.2 q q9
                                  · obtain rfl : q = i := by omega
                                    exact h.mp z⟩, fun z => h.mpr (z.2 i (by omega))⟩
                                refine ih _ (by omega) _ (i + 1) (by omega) ?_ rfl
                                first
                                  | exact (sp_bo.t (p := True) trivial).iff (hstep _ ⟨fun _ => Or.inl hb152, fun _ => trivial⟩)
                                  | exact (sp_bo.t (p := True) trivial).iff (hstep _ ⟨fun _ => Or.inr ⟨hb160, hb173⟩, fun _ => trivial⟩)
                                  | exact (sp_bo.f (p := False) id).iff (hstep _ ⟨False.elim, fun z => z.elim hb152 (fun y => y.1 hb160)⟩)
                                  | exact (sp_bo.f (p := False) id).iff (hstep _ ⟨False.elim, fun z => z.elim hb152 (fun y => hb173 y.2)⟩)
                              · refine sp_iconst X (pc := 176) (v := 1) dX12_meets_176 (by decide) ?_
                                refine sp_goto X (pc := 177) (tgt := 181) dX12_meets_177 (by decide) ?_
                                refine sp_istore_n X (pc := 181) (lv' := [(3, false, .int 1), (9, false, .int (((PT c).getD k []).getD i 0)), (8, false, .int (((PT a).getD k []).getD i 0)), (0, false, va_rf (some (B 0))), (1, false, .int (nI a)), (2, false, .int (nI c)), (4, false, .int (nI k)), (5, false, .int (nI (8 * a + k))), (6, false, .int (nI (8 * c + k))), (7, false, .int (nI i))]) dX12_meets_181 rfl (by decide) rfl ?_
                                refine sp_iinc X (pc := 182) (v := (nI (i + 1))) (lv' := [(7, false, .int (nI (i + 1))), (3, false, .int 1), (9, false, .int (((PT c).getD k []).getD i 0)), (8, false, .int (((PT a).getD k []).getD i 0)), (0, false, va_rf (some (B 0))), (1, false, .int (nI a)), (2, false, .int (nI c)), (4, false, .int (nI k)), (5, false, .int (nI (8 * a + k))), (6, false, .int (nI (8 * c + k)))]) dX12_meets_182 rfl ((sp_i1 i)) (by decide) rfl ?_
                                refine sp_goto X (pc := 185) (tgt := 102) dX12_meets_185 (by decide) ?_
                                refine sp_pick X [4, 5, 6, 1, 7, 8, 9, 0] (lv' := [(0, false, va_rf (some (B 0))), (1, false, .int (nI a)), (2, false, .int (nI c)), (3, false, .int 1), (4, false, .int (nI k)), (5, false, .int (nI (8 * a + k))), (6, false, .int (nI (8 * c + k))), (7, false, .int (nI (i + 1)))]) rfl ?_
                                have hstep : ∀ P9 : Prop, (P9 ↔ (((PT a).getD k []).getD i 0 = ((PT c).getD k []).getD i 0 ∨ (¬ sp_hr R 2 = 0 ∧ sp_sm (((PT a).getD k []).getD i 0) = sp_sm (((PT c).getD k []).getD i 0)))) → (P9 ↔ (((PT a).getD k []).length = ((PT c).getD k []).length ∧ ∀ q, q < i + 1 → (((PT a).getD k []).getD q 0 = ((PT c).getD k []).getD q 0 ∨ (¬ sp_hr R 2 = 0 ∧ sp_sm (((PT a).getD k []).getD q 0) = sp_sm (((PT c).getD k []).getD q 0))))) := fun _ h => ⟨fun z => ⟨hw0.1, fun q hq => by
                                  rcases Nat.lt_or_ge q i with q9 | q9
                                  · exact hw0.2 q q9
                                  · obtain rfl : q = i := by omega
                                    exact h.mp z⟩, fun z => h.mpr (z.2 i (by omega))⟩
                                refine ih _ (by omega) _ (i + 1) (by omega) ?_ rfl
                                first
                                  | exact (sp_bo.t (p := True) trivial).iff (hstep _ ⟨fun _ => Or.inl hb152, fun _ => trivial⟩)
                                  | exact (sp_bo.t (p := True) trivial).iff (hstep _ ⟨fun _ => Or.inr ⟨hb160, hb173⟩, fun _ => trivial⟩)
                                  | exact (sp_bo.f (p := False) id).iff (hstep _ ⟨False.elim, fun z => z.elim hb152 (fun y => y.1 hb160)⟩)
                                  | exact (sp_bo.f (p := False) id).iff (hstep _ ⟨False.elim, fun z => z.elim hb152 (fun y => hb173 y.2)⟩)
                  refine sp_pick X [4, 5, 6, 1, 7, 3, 2, 0] (lv' := [(0, false, va_rf (some (B 0))), (1, false, .int (nI a)), (2, false, .int (nI c)), (3, false, .int 1), (4, false, .int (nI k)), (5, false, .int (nI ((8 * a) + k))), (6, false, .int (nI ((8 * c) + k))), (7, false, .int 0)]) rfl ?_
                  first
                    | exact loop102 _ _ 0 (Nat.zero_le _) (sp_bo.t ⟨hl2, fun q z => absurd z (Nat.not_lt_zero _)⟩) rfl
                    | exact loop102 _ _ 0 (Nat.zero_le _) (sp_bo.f (fun z => hl2 z.1)) rfl
        refine sp_pick X [2, 3, 4, 1, 0] (lv' := [(0, false, va_rf (some (B 0))), (1, false, .int (nI a)), (2, false, .int (nI c)), (3, false, .int 1), (4, false, .int 0)]) rfl ?_
        first
          | exact loop43 _ _ 0 (Nat.zero_le _) (sp_bo.t ⟨hlen, fun q z => absurd z (Nat.not_lt_zero _)⟩) rfl
          | exact loop43 _ _ 0 (Nat.zero_le _) (sp_bo.f (fun z => hlen z.1)) rfl
    · have hno : ¬ (∃ j, j < p ∧ nI a = nI j) ∨ ¬ (∃ j, j < p ∧ y = nI j) := Or.inr (fun ⟨j, q1, q2⟩ => hp10.eq hb13 ⟨j, q2, q1⟩)
      refine sp_bipush X (pc := 16) (v := (-7)) dX12_meets_16 (by decide) ?_
      refine sp_ireturn X (pc := 18) dX12_meets_18 rfl ⟨_, rfl, ?_⟩
      exact ⟨Or.inl ⟨hno, rfl⟩, rfl⟩
set_option maxRecDepth 20000 in
theorem c_Mo_node (l : Launch) (G : sp_G) (m : sp_M) {B : Nat → Nat} {m0 : sp_M} {D : Nat → Int32} {R : Int32} {l0 l1 : Int64} {d n b p t e L ws : Nat} {vq vm vl : Int32} {vs : Int64} {vA vE : Nat → Int64} (hVm : sp_V B m0 m D R l0 l1 d n b p t e L ws vq vm vl vs vA vE) {x y : Int32} : sp_C l G M_Mo_node 0 0 [.ref (B 0), .int x, .int y] m (sp_oI fun v m' => True ∧ m' = m) := by
  refine sp_enter (lv0 := [(0, false, va_rf (some (B 0))), (1, false, .int x), (2, false, .int y)]) "SafePathsModel" false rfl (by decide) (fun h => by cases h) (Nat.le_of_ble_eq_true rfl) rfl ?_
  intro w X
  have bd := hVm.hd
  have bn := hVm.hn
  have bb := hVm.hb
  have bp := hVm.hp
  have bt := hVm.ht
  have be := hVm.he
  have bw := hVm.hw
  have bL := hVm.hL
  refine sp_iload_n X (pc := 0) (x := x) dX12_node_0 rfl rfl ?_
  refine sp_if_lt X (pc := 1) (tgt := 21) dX12_node_1 (by decide) (fun hb1 => ?_) (fun hb1 => ?_)
  · refine sp_bipush X (pc := 21) (v := (-7)) dX12_node_21 (by decide) ?_
    refine sp_ireturn X (pc := 23) dX12_node_23 rfl ⟨_, rfl, ?_⟩
    exact ⟨trivial, rfl⟩
  · refine sp_iload_n X (pc := 4) (x := x) dX12_node_4 rfl rfl ?_
    refine sp_aload_n X (pc := 5) (r := some (B 0)) dX12_node_5 rfl rfl ?_
    refine sp_getfield X (pc := 6) (c := 13) (i := 3) (t := 0) (a := (B 0)) (v := .int (nI n)) rfl hVm.r.o (by decide) rfl (congrArg Value.int hVm.cn) fl_Mo_115 dX12_node_6 ?_
    refine sp_icmp_ge X (pc := 9) (tgt := 21) dX12_node_9 (by decide) (fun hb9 => ?_) (fun hb9 => ?_)
    · refine sp_bipush X (pc := 21) (v := (-7)) dX12_node_21 (by decide) ?_
      refine sp_ireturn X (pc := 23) dX12_node_23 rfl ⟨_, rfl, ?_⟩
      exact ⟨trivial, rfl⟩
    · obtain ⟨j, hj, rfl⟩ := sp_idx (s := n) (by omega) hb1 hb9
      refine sp_iload_n X (pc := 12) (x := y) dX12_node_12 rfl rfl ?_
      refine sp_if_lt X (pc := 13) (tgt := 21) dX12_node_13 (by decide) (fun hb13 => ?_) (fun hb13 => ?_)
      · refine sp_bipush X (pc := 21) (v := (-7)) dX12_node_21 (by decide) ?_
        refine sp_ireturn X (pc := 23) dX12_node_23 rfl ⟨_, rfl, ?_⟩
        exact ⟨trivial, rfl⟩
      · refine sp_iload_n X (pc := 16) (x := y) dX12_node_16 rfl rfl ?_
        refine sp_iconst X (pc := 17) (v := 3) dX12_node_17 (by decide) ?_
        refine sp_icmp_le X (pc := 18) (tgt := 24) dX12_node_18 (by decide) (fun hb18 => ?_) (fun hb18 => ?_)
        · refine sp_iload_n X (pc := 24) (x := y) dX12_node_24 rfl rfl ?_
          refine sp_if_ne X (pc := 25) (tgt := 96) dX12_node_25 (by decide) (fun hb25 => ?_) (fun hb25 => ?_)
          · refine sp_iload_n X (pc := 96) (x := y) dX12_node_96 rfl rfl ?_
            refine sp_iconst X (pc := 97) (v := 1) dX12_node_97 (by decide) ?_
            refine sp_icmp_ne X (pc := 98) (tgt := 108) dX12_node_98 (by decide) (fun hb98 => ?_) (fun hb98 => ?_)
            · refine sp_iload_n X (pc := 108) (x := y) dX12_node_108 rfl rfl ?_
              refine sp_iconst X (pc := 109) (v := 3) dX12_node_109 (by decide) ?_
              refine sp_icmp_ne X (pc := 110) (tgt := 120) dX12_node_110 (by decide) (fun hb110 => ?_) (fun hb110 => ?_)
              · refine sp_aload_n X (pc := 120) (r := some (B 0)) dX12_node_120 rfl rfl ?_
                refine sp_getfield X (pc := 121) (c := 13) (i := 7) (t := 2) (a := (B 0)) (v := va_rf (some (B 7))) rfl hVm.r.o (by decide) rfl (congrArg va_rf hVm.f7) fl_Mo_23 dX12_node_121 ?_
                refine sp_iload_n X (pc := 124) (x := (nI j)) dX12_node_124 rfl rfl ?_
                refine sp_baload X (pc := 125) (a := (B 7)) rfl hVm.y7 (sp_in j hVm.l7 (by omega) (by decide)) dX12_node_125 ?_
                rw [show (m.aI (B 7) (nI j).toNatClampNeg) = (m.aI (B 7) j) from (congrArg _ (nI_clamp (n := j) (by omega)))]
                refine sp_if_eq X (pc := 126) (tgt := 131) dX12_node_126 (by decide) (fun hb126 => ?_) (fun hb126 => ?_)
                · refine sp_aload_n X (pc := 131) (r := some (B 0)) dX12_node_131 rfl rfl ?_
                  refine sp_getfield X (pc := 132) (c := 13) (i := 4) (t := 2) (a := (B 0)) (v := va_rf (some (B 4))) rfl hVm.r.o (by decide) rfl (congrArg va_rf hVm.f4) fl_Mo_13 dX12_node_132 ?_
                  refine sp_iload_n X (pc := 135) (x := (nI j)) dX12_node_135 rfl rfl ?_
                  refine sp_iaload X (pc := 136) (a := (B 4)) rfl (Or.inl hVm.y4) (sp_in j hVm.l4 (by omega) (by decide)) dX12_node_136 ?_
                  rw [show (m.aI (B 4) (nI j).toNatClampNeg) = (m.aI (B 4) j) from (congrArg _ (nI_clamp (n := j) (by omega)))]
                  refine sp_if_eq X (pc := 137) (tgt := 147) dX12_node_137 (by decide) (fun hb137 => ?_) (fun hb137 => ?_)
                  · refine sp_iconst X (pc := 147) (v := 0) dX12_node_147 (by decide) ?_
                    refine sp_istore_n X (pc := 148) (lv' := [(3, false, .int 0), (0, false, va_rf (some (B 0))), (1, false, .int (nI j)), (2, false, .int y)]) dX12_node_148 rfl (by decide) rfl ?_
                    refine sp_iconst X (pc := 149) (v := 1) dX12_node_149 (by decide) ?_
                    refine sp_istore X (pc := 150) (lv' := [(4, false, .int 1), (3, false, .int 0), (0, false, va_rf (some (B 0))), (1, false, .int (nI j)), (2, false, .int y)]) dX12_node_150  (by decide) rfl ?_
                    have loop152 : ∀ (dz : Nat) (u : Int32) (k : Nat), k ≤ 201 → n - k = dz → w 0 0 m 152 [(0, false, va_rf (some (B 0))), (1, false, .int (nI j)), (3, false, .int u), (4, false, .int (nI k))] [] := by
                      intro dz
                      induction dz using Nat.strongRecOn with
                      | ind dz ih =>
                        intro u k hk0 hdz
                        refine sp_iload X (pc := 152) (x := nI k) dX12_node_152 rfl ?_
                        refine sp_aload_n X (pc := 154) (r := some (B 0)) dX12_node_154 rfl rfl ?_
                        refine sp_getfield X (pc := 155) (c := 13) (i := 3) (t := 0) (a := (B 0)) (v := .int (nI n)) rfl hVm.r.o (by decide) rfl (congrArg Value.int hVm.cn) fl_Mo_115 dX12_node_155 ?_
                        refine sp_icmp_ge X (pc := 158) (tgt := 196) dX12_node_158 (by decide) (fun hb158 => ?_) (fun hb158 => ?_)
                        · refine sp_iload_n X (pc := 196) (x := u) dX12_node_196 rfl rfl ?_
                          refine sp_ireturn X (pc := 197) dX12_node_197 rfl ⟨_, rfl, ?_⟩
                          exact ⟨trivial, rfl⟩
                        · have hk : k < n := sp_nlt hb158 (by omega)
                          refine sp_iload_n X (pc := 161) (x := u) dX12_node_161 rfl rfl ?_
                          refine sp_aload_n X (pc := 162) (r := some (B 0)) dX12_node_162 rfl rfl ?_
                          refine sp_getfield X (pc := 163) (c := 13) (i := 7) (t := 2) (a := (B 0)) (v := va_rf (some (B 7))) rfl hVm.r.o (by decide) rfl (congrArg va_rf hVm.f7) fl_Mo_23 dX12_node_163 ?_
                          refine sp_iload X (pc := 166) (x := nI k) dX12_node_166 rfl ?_
                          refine sp_baload X (pc := 168) (a := (B 7)) rfl hVm.y7 (sp_in k hVm.l7 (by omega) (by decide)) dX12_node_168 ?_
                          rw [show (m.aI (B 7) (nI k).toNatClampNeg) = (m.aI (B 7) k) from (congrArg _ (nI_clamp (n := k) (by omega)))]
                          refine sp_if_ne X (pc := 169) (tgt := 187) dX12_node_169 (by decide) (fun hb169 => ?_) (fun hb169 => ?_)
                          · refine sp_iconst X (pc := 187) (v := 0) dX12_node_187 (by decide) ?_
                            refine sp_iadd X (pc := 188) dX12_node_188 ?_
                            refine sp_istore_n X (pc := 189) (lv' := [(3, false, .int (u + 0)), (0, false, va_rf (some (B 0))), (1, false, .int (nI j)), (4, false, .int (nI k))]) dX12_node_189 rfl (by decide) rfl ?_
                            refine sp_iinc X (pc := 190) (v := (nI (k + 1))) (lv' := [(4, false, .int (nI (k + 1))), (3, false, .int (u + 0)), (0, false, va_rf (some (B 0))), (1, false, .int (nI j))]) dX12_node_190 rfl ((sp_i1 k)) (by decide) rfl ?_
                            refine sp_goto X (pc := 193) (tgt := 152) dX12_node_193 (by decide) ?_
                            refine sp_pick X [2, 3, 1, 0] (lv' := [(0, false, va_rf (some (B 0))), (1, false, .int (nI j)), (3, false, .int (u + 0)), (4, false, .int (nI (k + 1)))]) rfl ?_
                            exact ih _ (by omega) _ (k + 1) (by omega) rfl
                          · refine sp_aload_n X (pc := 172) (r := some (B 0)) dX12_node_172 rfl rfl ?_
                            refine sp_getfield X (pc := 173) (c := 13) (i := 8) (t := 2) (a := (B 0)) (v := va_rf (some (B 8))) rfl hVm.r.o (by decide) rfl (congrArg va_rf hVm.f8) fl_Mo_26 dX12_node_173 ?_
                            refine sp_iload X (pc := 176) (x := nI k) dX12_node_176 rfl ?_
                            refine sp_iaload X (pc := 178) (a := (B 8)) rfl (Or.inl hVm.y8) (sp_in k hVm.l8 (by omega) (by decide)) dX12_node_178 ?_
                            rw [show (m.aI (B 8) (nI k).toNatClampNeg) = (m.aI (B 8) k) from (congrArg _ (nI_clamp (n := k) (by omega)))]
                            refine sp_iload_n X (pc := 179) (x := nI j) dX12_node_179 rfl rfl ?_
                            refine sp_icmp_ne X (pc := 180) (tgt := 187) dX12_node_180 (by decide) (fun hb180 => ?_) (fun hb180 => ?_)
                            · refine sp_iconst X (pc := 187) (v := 0) dX12_node_187 (by decide) ?_
                              refine sp_iadd X (pc := 188) dX12_node_188 ?_
                              refine sp_istore_n X (pc := 189) (lv' := [(3, false, .int (u + 0)), (0, false, va_rf (some (B 0))), (1, false, .int (nI j)), (4, false, .int (nI k))]) dX12_node_189 rfl (by decide) rfl ?_
                              refine sp_iinc X (pc := 190) (v := (nI (k + 1))) (lv' := [(4, false, .int (nI (k + 1))), (3, false, .int (u + 0)), (0, false, va_rf (some (B 0))), (1, false, .int (nI j))]) dX12_node_190 rfl ((sp_i1 k)) (by decide) rfl ?_
                              refine sp_goto X (pc := 193) (tgt := 152) dX12_node_193 (by decide) ?_
                              refine sp_pick X [2, 3, 1, 0] (lv' := [(0, false, va_rf (some (B 0))), (1, false, .int (nI j)), (3, false, .int (u + 0)), (4, false, .int (nI (k + 1)))]) rfl ?_
                              exact ih _ (by omega) _ (k + 1) (by omega) rfl
                            · refine sp_iconst X (pc := 183) (v := 1) dX12_node_183 (by decide) ?_
                              refine sp_goto X (pc := 184) (tgt := 188) dX12_node_184 (by decide) ?_
                              refine sp_iadd X (pc := 188) dX12_node_188 ?_
                              refine sp_istore_n X (pc := 189) (lv' := [(3, false, .int (u + 1)), (0, false, va_rf (some (B 0))), (1, false, .int (nI j)), (4, false, .int (nI k))]) dX12_node_189 rfl (by decide) rfl ?_
                              refine sp_iinc X (pc := 190) (v := (nI (k + 1))) (lv' := [(4, false, .int (nI (k + 1))), (3, false, .int (u + 1)), (0, false, va_rf (some (B 0))), (1, false, .int (nI j))]) dX12_node_190 rfl ((sp_i1 k)) (by decide) rfl ?_
                              refine sp_goto X (pc := 193) (tgt := 152) dX12_node_193 (by decide) ?_
                              refine sp_pick X [2, 3, 1, 0] (lv' := [(0, false, va_rf (some (B 0))), (1, false, .int (nI j)), (3, false, .int (u + 1)), (4, false, .int (nI (k + 1)))]) rfl ?_
                              exact ih _ (by omega) _ (k + 1) (by omega) rfl
                    refine sp_pick X [2, 3, 1, 0] (lv' := [(0, false, va_rf (some (B 0))), (1, false, .int (nI j)), (3, false, .int 0), (4, false, .int 1)]) rfl ?_
                    exact loop152 _ _ 1 (by omega) rfl
                  · refine sp_aload_n X (pc := 140) (r := some (B 0)) dX12_node_140 rfl rfl ?_
                    refine sp_getfield X (pc := 141) (c := 13) (i := 9) (t := 2) (a := (B 0)) (v := va_rf (some (B 9))) rfl hVm.r.o (by decide) rfl (congrArg va_rf hVm.f9) fl_Mo_29 dX12_node_141 ?_
                    refine sp_iload_n X (pc := 144) (x := (nI j)) dX12_node_144 rfl rfl ?_
                    refine sp_iaload X (pc := 145) (a := (B 9)) rfl (Or.inl hVm.y9) (sp_in j hVm.l9 (by omega) (by decide)) dX12_node_145 ?_
                    rw [show (m.aI (B 9) (nI j).toNatClampNeg) = (m.aI (B 9) j) from (congrArg _ (nI_clamp (n := j) (by omega)))]
                    refine sp_ireturn X (pc := 146) dX12_node_146 rfl ⟨_, rfl, ?_⟩
                    exact ⟨trivial, rfl⟩
                · refine sp_iconst X (pc := 129) (v := (-1)) dX12_node_129 (by decide) ?_
                  refine sp_ireturn X (pc := 130) dX12_node_130 rfl ⟨_, rfl, ?_⟩
                  exact ⟨trivial, rfl⟩
              · refine sp_aload_n X (pc := 113) (r := some (B 0)) dX12_node_113 rfl rfl ?_
                refine sp_getfield X (pc := 114) (c := 13) (i := 10) (t := 2) (a := (B 0)) (v := va_rf (some (B 10))) rfl hVm.r.o (by decide) rfl (congrArg va_rf hVm.f10) fl_Mo_32 dX12_node_114 ?_
                refine sp_iload_n X (pc := 117) (x := (nI j)) dX12_node_117 rfl rfl ?_
                refine sp_iaload X (pc := 118) (a := (B 10)) rfl (Or.inl hVm.y10) (sp_in j hVm.l10 (by omega) (by decide)) dX12_node_118 ?_
                rw [show (m.aI (B 10) (nI j).toNatClampNeg) = (m.aI (B 10) j) from (congrArg _ (nI_clamp (n := j) (by omega)))]
                refine sp_ireturn X (pc := 119) dX12_node_119 rfl ⟨_, rfl, ?_⟩
                exact ⟨trivial, rfl⟩
            · refine sp_aload_n X (pc := 101) (r := some (B 0)) dX12_node_101 rfl rfl ?_
              refine sp_getfield X (pc := 102) (c := 13) (i := 8) (t := 2) (a := (B 0)) (v := va_rf (some (B 8))) rfl hVm.r.o (by decide) rfl (congrArg va_rf hVm.f8) fl_Mo_26 dX12_node_102 ?_
              refine sp_iload_n X (pc := 105) (x := (nI j)) dX12_node_105 rfl rfl ?_
              refine sp_iaload X (pc := 106) (a := (B 8)) rfl (Or.inl hVm.y8) (sp_in j hVm.l8 (by omega) (by decide)) dX12_node_106 ?_
              rw [show (m.aI (B 8) (nI j).toNatClampNeg) = (m.aI (B 8) j) from (congrArg _ (nI_clamp (n := j) (by omega)))]
              refine sp_ireturn X (pc := 107) dX12_node_107 rfl ⟨_, rfl, ?_⟩
              exact ⟨trivial, rfl⟩
          · refine sp_aload_n X (pc := 28) (r := some (B 0)) dX12_node_28 rfl rfl ?_
            refine sp_getfield X (pc := 29) (c := 13) (i := 7) (t := 2) (a := (B 0)) (v := va_rf (some (B 7))) rfl hVm.r.o (by decide) rfl (congrArg va_rf hVm.f7) fl_Mo_23 dX12_node_29 ?_
            refine sp_iload_n X (pc := 32) (x := (nI j)) dX12_node_32 rfl rfl ?_
            refine sp_baload X (pc := 33) (a := (B 7)) rfl hVm.y7 (sp_in j hVm.l7 (by omega) (by decide)) dX12_node_33 ?_
            rw [show (m.aI (B 7) (nI j).toNatClampNeg) = (m.aI (B 7) j) from (congrArg _ (nI_clamp (n := j) (by omega)))]
            refine sp_if_eq X (pc := 34) (tgt := 41) dX12_node_34 (by decide) (fun hb34 => ?_) (fun hb34 => ?_)
            · refine sp_aload_n X (pc := 41) (r := some (B 0)) dX12_node_41 rfl rfl ?_
              refine sp_getfield X (pc := 42) (c := 13) (i := 4) (t := 2) (a := (B 0)) (v := va_rf (some (B 4))) rfl hVm.r.o (by decide) rfl (congrArg va_rf hVm.f4) fl_Mo_13 dX12_node_42 ?_
              refine sp_iload_n X (pc := 45) (x := (nI j)) dX12_node_45 rfl rfl ?_
              refine sp_iaload X (pc := 46) (a := (B 4)) rfl (Or.inl hVm.y4) (sp_in j hVm.l4 (by omega) (by decide)) dX12_node_46 ?_
              rw [show (m.aI (B 4) (nI j).toNatClampNeg) = (m.aI (B 4) j) from (congrArg _ (nI_clamp (n := j) (by omega)))]
              refine sp_if_ne X (pc := 47) (tgt := 67) dX12_node_47 (by decide) (fun hb47 => ?_) (fun hb47 => ?_)
              · refine sp_aload_n X (pc := 67) (r := some (B 0)) dX12_node_67 rfl rfl ?_
                refine sp_getfield X (pc := 68) (c := 13) (i := 4) (t := 2) (a := (B 0)) (v := va_rf (some (B 4))) rfl hVm.r.o (by decide) rfl (congrArg va_rf hVm.f4) fl_Mo_13 dX12_node_68 ?_
                refine sp_iload_n X (pc := 71) (x := (nI j)) dX12_node_71 rfl rfl ?_
                refine sp_iaload X (pc := 72) (a := (B 4)) rfl (Or.inl hVm.y4) (sp_in j hVm.l4 (by omega) (by decide)) dX12_node_72 ?_
                rw [show (m.aI (B 4) (nI j).toNatClampNeg) = (m.aI (B 4) j) from (congrArg _ (nI_clamp (n := j) (by omega)))]
                refine sp_iconst X (pc := 73) (v := 1) dX12_node_73 (by decide) ?_
                refine sp_icmp_ne X (pc := 74) (tgt := 81) dX12_node_74 (by decide) (fun hb74 => ?_) (fun hb74 => ?_)
                · refine sp_aload_n X (pc := 81) (r := some (B 0)) dX12_node_81 rfl rfl ?_
                  refine sp_getfield X (pc := 82) (c := 13) (i := 6) (t := 2) (a := (B 0)) (v := va_rf (some (B 6))) rfl hVm.r.o (by decide) rfl (congrArg va_rf hVm.f6) fl_Mo_20 dX12_node_82 ?_
                  refine sp_iload_n X (pc := 85) (x := (nI j)) dX12_node_85 rfl rfl ?_
                  refine sp_baload X (pc := 86) (a := (B 6)) rfl hVm.y6 (sp_in j hVm.l6 (by omega) (by decide)) dX12_node_86 ?_
                  rw [show (m.aI (B 6) (nI j).toNatClampNeg) = (m.aI (B 6) j) from (congrArg _ (nI_clamp (n := j) (by omega)))]
                  refine sp_if_eq X (pc := 87) (tgt := 94) dX12_node_87 (by decide) (fun hb87 => ?_) (fun hb87 => ?_)
                  · refine sp_iconst X (pc := 94) (v := 3) dX12_node_94 (by decide) ?_
                    refine sp_ireturn X (pc := 95) dX12_node_95 rfl ⟨_, rfl, ?_⟩
                    exact ⟨trivial, rfl⟩
                  · refine sp_iconst X (pc := 90) (v := 4) dX12_node_90 (by decide) ?_
                    refine sp_goto X (pc := 91) (tgt := 95) dX12_node_91 (by decide) ?_
                    refine sp_ireturn X (pc := 95) dX12_node_95 rfl ⟨_, rfl, ?_⟩
                    exact ⟨trivial, rfl⟩
                · refine sp_iconst X (pc := 77) (v := 2) dX12_node_77 (by decide) ?_
                  refine sp_goto X (pc := 78) (tgt := 95) dX12_node_78 (by decide) ?_
                  refine sp_ireturn X (pc := 95) dX12_node_95 rfl ⟨_, rfl, ?_⟩
                  exact ⟨trivial, rfl⟩
              · refine sp_aload_n X (pc := 50) (r := some (B 0)) dX12_node_50 rfl rfl ?_
                refine sp_getfield X (pc := 51) (c := 13) (i := 5) (t := 2) (a := (B 0)) (v := va_rf (some (B 5))) rfl hVm.r.o (by decide) rfl (congrArg va_rf hVm.f5) fl_Mo_16 dX12_node_51 ?_
                refine sp_iload_n X (pc := 54) (x := (nI j)) dX12_node_54 rfl rfl ?_
                refine sp_baload X (pc := 55) (a := (B 5)) rfl hVm.y5 (sp_in j hVm.l5 (by omega) (by decide)) dX12_node_55 ?_
                rw [show (m.aI (B 5) (nI j).toNatClampNeg) = (m.aI (B 5) j) from (congrArg _ (nI_clamp (n := j) (by omega)))]
                refine sp_if_eq X (pc := 56) (tgt := 63) dX12_node_56 (by decide) (fun hb56 => ?_) (fun hb56 => ?_)
                · refine sp_iconst X (pc := 63) (v := 0) dX12_node_63 (by decide) ?_
                  refine sp_goto X (pc := 64) (tgt := 95) dX12_node_64 (by decide) ?_
                  refine sp_ireturn X (pc := 95) dX12_node_95 rfl ⟨_, rfl, ?_⟩
                  exact ⟨trivial, rfl⟩
                · refine sp_iconst X (pc := 59) (v := 1) dX12_node_59 (by decide) ?_
                  refine sp_goto X (pc := 60) (tgt := 95) dX12_node_60 (by decide) ?_
                  refine sp_ireturn X (pc := 95) dX12_node_95 rfl ⟨_, rfl, ?_⟩
                  exact ⟨trivial, rfl⟩
            · refine sp_iconst X (pc := 37) (v := (-1)) dX12_node_37 (by decide) ?_
              refine sp_goto X (pc := 38) (tgt := 95) dX12_node_38 (by decide) ?_
              refine sp_ireturn X (pc := 95) dX12_node_95 rfl ⟨_, rfl, ?_⟩
              exact ⟨trivial, rfl⟩
        · refine sp_bipush X (pc := 21) (v := (-7)) dX12_node_21 (by decide) ?_
          refine sp_ireturn X (pc := 23) dX12_node_23 rfl ⟨_, rfl, ?_⟩
          exact ⟨trivial, rfl⟩
set_option maxRecDepth 20000 in
theorem c_Mo_limit (l : Launch) (G : sp_G) (m : sp_M) {B : Nat → Nat} {m0 : sp_M} {D : Nat → Int32} {R : Int32} {l0 l1 : Int64} {d n b p t e L ws : Nat} {vq vm vl : Int32} {vs : Int64} {vA vE : Nat → Int64} (hVm : sp_V B m0 m D R l0 l1 d n b p t e L ws vq vm vl vs vA vE) {x : Int32} {z : Int64} : sp_C l G M_Mo_limit 0 0 [.ref (B 0), .int x, .long z] m (sp_oL fun v m' => ((z < 0 ∨ ¬ (x = 0 ∨ x = 1)) ∧ v = -7 ∧ m' = m) ∨ (¬ z < 0 ∧ x = 0 ∧ v = l0 ∧ sp_V B m0 m' D R z l1 d n b p t e L ws vq vm vl vs vA vE ∧ sp_rk B [] m m') ∨ (¬ z < 0 ∧ x = 1 ∧ v = l1 ∧ sp_V B m0 m' D R l0 z d n b p t e L ws vq vm vl vs vA vE ∧ sp_rk B [] m m')) := by
  refine sp_enter (lv0 := [(0, false, va_rf (some (B 0))), (1, false, .int x), (2, true, .long z)]) "SafePathsModel" false rfl (by decide) (fun h => by cases h) (Nat.le_of_ble_eq_true rfl) rfl ?_
  intro w X
  have bd := hVm.hd
  have bn := hVm.hn
  have bb := hVm.hb
  have bp := hVm.hp
  have bt := hVm.ht
  have be := hVm.he
  have bw := hVm.hw
  have bL := hVm.hL
  have rkm : sp_rk B [] m m := sp_rk.refl _ _ _
  refine sp_iload_n X (pc := 0) (x := x) dX12_limit_0 rfl rfl ?_
  refine sp_if_lt X (pc := 1) (tgt := 15) dX12_limit_1 (by decide) (fun hb1 => ?_) (fun hb1 => ?_)
  · have hz : ¬ (x = 0 ∨ x = 1) := by
      rintro (q | q) <;> (rw [q] at hb1; exact absurd hb1 (by decide))
    refine sp_ldc2 X (pc := 15) (v := (-7)) kl_Mo_236 dX12_limit_15 ?_
    refine sp_lreturn X (pc := 18) dX12_limit_18 ⟨_, rfl, ?_⟩
    first | exact Or.inl ⟨Or.inr hz, rfl, rfl⟩ | exact Or.inl ⟨Or.inl (sp_llt hb12), rfl, rfl⟩
  · refine sp_iload_n X (pc := 4) (x := x) dX12_limit_4 rfl rfl ?_
    refine sp_iconst X (pc := 5) (v := 1) dX12_limit_5 (by decide) ?_
    refine sp_icmp_gt X (pc := 6) (tgt := 15) dX12_limit_6 (by decide) (fun hb6 => ?_) (fun hb6 => ?_)
    · have hz : ¬ (x = 0 ∨ x = 1) := by
        rintro (q | q) <;> (rw [q] at hb6; exact absurd hb6 (by decide))
      refine sp_ldc2 X (pc := 15) (v := (-7)) kl_Mo_236 dX12_limit_15 ?_
      refine sp_lreturn X (pc := 18) dX12_limit_18 ⟨_, rfl, ?_⟩
      first | exact Or.inl ⟨Or.inr hz, rfl, rfl⟩ | exact Or.inl ⟨Or.inl (sp_llt hb12), rfl, rfl⟩
    · refine sp_lload_n X (pc := 9) (x := z) dX12_limit_9 rfl rfl ?_
      refine sp_lconst X (pc := 10) (v := 0) dX12_limit_10 (by decide) ?_
      refine sp_lcmp X (pc := 11) dX12_limit_11 ?_
      refine sp_if_ge X (pc := 12) (tgt := 19) dX12_limit_12 (by decide) (fun hb12 => ?_) (fun hb12 => ?_)
      · refine sp_iload_n X (pc := 19) (x := x) dX12_limit_19 rfl rfl ?_
        refine sp_if_ne X (pc := 20) (tgt := 30) dX12_limit_20 (by decide) (fun hb20 => ?_) (fun hb20 => ?_)
        · have hx1 : x = 1 := by
            obtain ⟨j, hj, hx⟩ := sp_idx (s := 2) (by omega) hb1 (fun q => hb6 (by rw [Int32.lt_iff_toInt_lt]; rw [Int32.le_iff_toInt_le] at q; have : (nI 2).toInt = 2 := by decide +kernel
                                                                                   have : (1 : Int32).toInt = 1 := by decide +kernel
                                                                                   omega))
            have hj1 : j = 1 := by
              have : j ≠ 0 := fun q => hb20 (by rw [hx, q]; rfl)
              omega
            rw [hx, hj1]; rfl
          subst hx1
          refine sp_aload_n X (pc := 30) (r := some (B 0)) dX12_limit_30 rfl rfl ?_
          refine sp_getfield X (pc := 31) (c := 13) (i := 30) (t := 1) (a := (B 0)) (v := .long l1) rfl hVm.r.o (by decide) rfl (congrArg Value.long hVm.c1) fl_Mo_83 dX12_limit_31 ?_
          refine sp_lstore X (pc := 34) (lv' := [(4, true, .long l1), (0, false, va_rf (some (B 0))), (1, false, .int 1), (2, true, .long z)]) dX12_limit_34  (by decide) rfl ?_
          refine sp_aload_n X (pc := 36) (r := some (B 0)) dX12_limit_36 rfl rfl ?_
          refine sp_iload_n X (pc := 37) (x := 1) dX12_limit_37 rfl rfl ?_
          refine sp_if_ne X (pc := 38) (tgt := 45) dX12_limit_38 (by decide) (fun hb38 => ?_) (fun hb38 => ?_)
          · refine sp_aload_n X (pc := 45) (r := some (B 0)) dX12_limit_45 rfl rfl ?_
            refine sp_getfield X (pc := 46) (c := 13) (i := 29) (t := 1) (a := (B 0)) (v := .long l0) rfl hVm.r.o (by decide) rfl (congrArg Value.long hVm.c0) fl_Mo_77 dX12_limit_46 ?_
            refine sp_putL X (pc := 49) (c := 13) (i := 29) (q := 861) (a := (B 0)) rfl hVm.r.o (by decide) rfl rfl (Or.inl rfl)  fl_Mo_77 dX12_limit_49 ?_
            obtain ⟨m49, hm49⟩ : ∃ xm, xm = (m.pL 861 (B 0) l0) := ⟨_, rfl⟩
            rw [← hm49]
            have hVm49 : sp_V B m0 m49 D R l0 l1 d n b p t e L ws vq vm vl vs vA vE := by
              rw [hm49]
              exact hVm.q0 l0
            have rkm49 : sp_rk B [] m m49 := by
              rw [hm49]
              exact rkm
            clear hm49
            refine sp_aload_n X (pc := 52) (r := some (B 0)) dX12_limit_52 rfl rfl ?_
            refine sp_iload_n X (pc := 53) (x := 1) dX12_limit_53 rfl rfl ?_
            refine sp_iconst X (pc := 54) (v := 1) dX12_limit_54 (by decide) ?_
            refine sp_icmp_ne X (pc := 55) (tgt := 62) dX12_limit_55 (by decide) (fun hb55 => ?_) (fun hb55 => ?_)
            · first | exact absurd hb55 (by decide) | exact absurd (by decide) hb55
            · refine sp_lload_n X (pc := 58) (x := z) dX12_limit_58 rfl rfl ?_
              refine sp_goto X (pc := 59) (tgt := 66) dX12_limit_59 (by decide) ?_
              refine sp_putL X (pc := 66) (c := 13) (i := 30) (q := 862) (a := (B 0)) rfl hVm49.r.o (by decide) rfl rfl (Or.inl rfl)  fl_Mo_83 dX12_limit_66 ?_
              obtain ⟨m66, hm66⟩ : ∃ xm, xm = (m49.pL 862 (B 0) z) := ⟨_, rfl⟩
              rw [← hm66]
              have hVm66 : sp_V B m0 m66 D R l0 z d n b p t e L ws vq vm vl vs vA vE := by
                rw [hm66]
                exact hVm49.q1 z
              have rkm66 : sp_rk B [] m m66 := by
                rw [hm66]
                exact rkm49
              clear hm66
              refine sp_lload X (pc := 69) (x := l1) dX12_limit_69 rfl ?_
              refine sp_lreturn X (pc := 71) dX12_limit_71 ⟨_, rfl, ?_⟩
              have hz0 := sp_lge hb12
              first
                | exact Or.inr (Or.inl ⟨hz0, rfl, rfl, hVm66, rkm66⟩)
                | exact Or.inr (Or.inr ⟨hz0, rfl, rfl, hVm66, rkm66⟩)
          · first | exact absurd hb38 (by decide) | exact absurd (by decide) hb38
        · subst hb20
          refine sp_aload_n X (pc := 23) (r := some (B 0)) dX12_limit_23 rfl rfl ?_
          refine sp_getfield X (pc := 24) (c := 13) (i := 29) (t := 1) (a := (B 0)) (v := .long l0) rfl hVm.r.o (by decide) rfl (congrArg Value.long hVm.c0) fl_Mo_77 dX12_limit_24 ?_
          refine sp_goto X (pc := 27) (tgt := 34) dX12_limit_27 (by decide) ?_
          refine sp_lstore X (pc := 34) (lv' := [(4, true, .long l0), (0, false, va_rf (some (B 0))), (1, false, .int 0), (2, true, .long z)]) dX12_limit_34  (by decide) rfl ?_
          refine sp_aload_n X (pc := 36) (r := some (B 0)) dX12_limit_36 rfl rfl ?_
          refine sp_iload_n X (pc := 37) (x := 0) dX12_limit_37 rfl rfl ?_
          refine sp_if_ne X (pc := 38) (tgt := 45) dX12_limit_38 (by decide) (fun hb38 => ?_) (fun hb38 => ?_)
          · first | exact absurd hb38 (by decide) | exact absurd (by decide) hb38
          · refine sp_lload_n X (pc := 41) (x := z) dX12_limit_41 rfl rfl ?_
            refine sp_goto X (pc := 42) (tgt := 49) dX12_limit_42 (by decide) ?_
            refine sp_putL X (pc := 49) (c := 13) (i := 29) (q := 861) (a := (B 0)) rfl hVm.r.o (by decide) rfl rfl (Or.inl rfl)  fl_Mo_77 dX12_limit_49 ?_
            obtain ⟨m49, hm49⟩ : ∃ xm, xm = (m.pL 861 (B 0) z) := ⟨_, rfl⟩
            rw [← hm49]
            have hVm49 : sp_V B m0 m49 D R z l1 d n b p t e L ws vq vm vl vs vA vE := by
              rw [hm49]
              exact hVm.q0 z
            have rkm49 : sp_rk B [] m m49 := by
              rw [hm49]
              exact rkm
            clear hm49
            refine sp_aload_n X (pc := 52) (r := some (B 0)) dX12_limit_52 rfl rfl ?_
            refine sp_iload_n X (pc := 53) (x := 0) dX12_limit_53 rfl rfl ?_
            refine sp_iconst X (pc := 54) (v := 1) dX12_limit_54 (by decide) ?_
            refine sp_icmp_ne X (pc := 55) (tgt := 62) dX12_limit_55 (by decide) (fun hb55 => ?_) (fun hb55 => ?_)
            · refine sp_aload_n X (pc := 62) (r := some (B 0)) dX12_limit_62 rfl rfl ?_
              refine sp_getfield X (pc := 63) (c := 13) (i := 30) (t := 1) (a := (B 0)) (v := .long l1) rfl hVm49.r.o (by decide) rfl (congrArg Value.long hVm49.c1) fl_Mo_83 dX12_limit_63 ?_
              refine sp_putL X (pc := 66) (c := 13) (i := 30) (q := 862) (a := (B 0)) rfl hVm49.r.o (by decide) rfl rfl (Or.inl rfl)  fl_Mo_83 dX12_limit_66 ?_
              obtain ⟨m66, hm66⟩ : ∃ xm, xm = (m49.pL 862 (B 0) l1) := ⟨_, rfl⟩
              rw [← hm66]
              have hVm66 : sp_V B m0 m66 D R z l1 d n b p t e L ws vq vm vl vs vA vE := by
                rw [hm66]
                exact hVm49.q1 l1
              have rkm66 : sp_rk B [] m m66 := by
                rw [hm66]
                exact rkm49
              clear hm66
              refine sp_lload X (pc := 69) (x := l0) dX12_limit_69 rfl ?_
              refine sp_lreturn X (pc := 71) dX12_limit_71 ⟨_, rfl, ?_⟩
              have hz0 := sp_lge hb12
              first
                | exact Or.inr (Or.inl ⟨hz0, rfl, rfl, hVm66, rkm66⟩)
                | exact Or.inr (Or.inr ⟨hz0, rfl, rfl, hVm66, rkm66⟩)
            · first | exact absurd hb55 (by decide) | exact absurd (by decide) hb55
      · refine sp_ldc2 X (pc := 15) (v := (-7)) kl_Mo_236 dX12_limit_15 ?_
        refine sp_lreturn X (pc := 18) dX12_limit_18 ⟨_, rfl, ?_⟩
        first | exact Or.inl ⟨Or.inr hz, rfl, rfl⟩ | exact Or.inl ⟨Or.inl (sp_llt hb12), rfl, rfl⟩

/-- the model's tree, bodies, notes, counts -/
def sp_mZ (m : sp_M) (B : Nat → Nat) (n b : Nat) (vq vm : Int32) (vs : Int64) (vA : Nat → Int64) (Z : pu_Z) : Prop := (n = Z.n ∧ b = Z.b) ∧ sp_mN m B n n Z.T ∧ (∀ j, j < b → vA j = Z.S j ∧ m.aI (B 16) j = Z.V j) ∧ (∀ j, j < n → m.aI (B 12) j = (pu_last Z.q j).getD (-1)) ∧ vq = nI Z.q.length ∧ vm = nI (n - 4) ∧ vs = Z.z
theorem sp_mZ.rk {B : Nat → Nat} {l : List Nat} {m m' : sp_M} {n b : Nat} {vq vm : Int32} {vs : Int64} {vA : Nat → Int64} {Z : pu_Z} (h : sp_mZ m B n b vq vm vs vA Z) (hr : sp_rk B l m m') (hl : ∀ k, k ∈ [4, 5, 6, 7, 8, 9, 10, 11, 12, 16] → k ∉ l) : sp_mZ m' B n b vq vm vs vA Z := by
  obtain ⟨h1, h2, h3, h4, h5⟩ := h
  refine ⟨h1, h2.rk hr (fun k hk => hl k (by revert hk; revert k; decide)), ?_, ?_, h5⟩
  · rw [hr 16 (by decide) (hl 16 (by decide))]; exact h3
  · rw [hr 12 (by decide) (hl 12 (by decide))]; exact h4
theorem sp_nn9 {j : Nat} (h : j < 2 ^ 31) : ¬ nI j = -1 := fun z => absurd (show nI j < 0 by rw [z]; decide) (nI_pos h)
theorem sp_t64 {c : Nat} (h : c ≤ 1000) : (nI c).toInt64 + 1 = (nI (c + 1)).toInt64 := by
  rw [← Int64.toInt_inj, Int64.toInt_add, Int32.toInt_toInt64, Int32.toInt_toInt64, nI_toInt (by omega), nI_toInt (by omega)]
  show ((c : Int) + 1).bmod (2 ^ 64) = ((c + 1 : Nat) : Int)
  unfold Int.bmod
  simp only []
  split <;> omega
set_option maxRecDepth 20000 in
theorem c_Mo_name (l : Launch) (G : sp_G) (m : sp_M) {B : Nat → Nat} {m0 : sp_M} {D : Nat → Int32} {R : Int32} {l0 l1 : Int64} {d n b p t e L ws : Nat} {vq vm vl : Int32} {vs : Int64} {vA vE : Nat → Int64} (hVm : sp_V B m0 m D R l0 l1 d n b p t e L ws vq vm vl vs vA vE)  {T : pu_N} {nb0 nt0 : Nat} (hMN : sp_mN m B n L T) (hW : pu_W n nb0 nt0 T) {x y : Int32} : sp_C l G M_Mo_name 0 0 [.ref (B 0), .int x, .int y] m (sp_oI fun v m' => pu_name v n T x y ∧ m' = m) := by
  refine sp_enter (lv0 := [(0, false, va_rf (some (B 0))), (1, false, .int x), (2, false, .int y)]) "SafePathsModel" false rfl (by decide) (fun h => by cases h) (Nat.le_of_ble_eq_true rfl) rfl ?_
  intro w X
  have bd := hVm.hd
  have bn := hVm.hn
  have bb := hVm.hb
  have bp := hVm.hp
  have bt := hVm.ht
  have be := hVm.he
  have bw := hVm.hw
  have bL := hVm.hL
  refine sp_iload_n X (pc := 0) (x := x) dX12_name_0 rfl rfl ?_
  refine sp_if_lt X (pc := 1) (tgt := 40) dX12_name_1 (by decide) (fun hb1 => ?_) (fun hb1 => ?_)
  · have hno : ¬ ∃ j i, j < n ∧ x = nI j ∧ i < (T.w j).length ∧ y = nI i := fun ⟨j, i, q1, q2, _⟩ => by rw [q2] at hb1; exact nI_pos (by omega) hb1
    refine sp_iconst X (pc := 40) (v := (-1)) dX12_name_40 (by decide) ?_
    refine sp_ireturn X (pc := 41) dX12_name_41 rfl ⟨_, rfl, ?_⟩
    first | exact ⟨Or.inl ⟨j, i, hj, rfl, hi, rfl, rfl⟩, rfl⟩ | exact ⟨Or.inr ⟨hno, rfl⟩, rfl⟩
  · refine sp_iload_n X (pc := 4) (x := x) dX12_name_4 rfl rfl ?_
    refine sp_aload_n X (pc := 5) (r := some (B 0)) dX12_name_5 rfl rfl ?_
    refine sp_getfield X (pc := 6) (c := 13) (i := 3) (t := 0) (a := (B 0)) (v := .int (nI n)) rfl hVm.r.o (by decide) rfl (congrArg Value.int hVm.cn) fl_Mo_115 dX12_name_6 ?_
    refine sp_icmp_ge X (pc := 9) (tgt := 40) dX12_name_9 (by decide) (fun hb9 => ?_) (fun hb9 => ?_)
    · have hno : ¬ ∃ j i, j < n ∧ x = nI j ∧ i < (T.w j).length ∧ y = nI i := fun ⟨j, i, q1, q2, _⟩ => by rw [q2] at hb9; have := sp_nge hb9 (by omega) (by omega); omega
      refine sp_iconst X (pc := 40) (v := (-1)) dX12_name_40 (by decide) ?_
      refine sp_ireturn X (pc := 41) dX12_name_41 rfl ⟨_, rfl, ?_⟩
      first | exact ⟨Or.inl ⟨j, i, hj, rfl, hi, rfl, rfl⟩, rfl⟩ | exact ⟨Or.inr ⟨hno, rfl⟩, rfl⟩
    · obtain ⟨j, hj, rfl⟩ := sp_idx (s := n) (by omega) hb1 hb9
      obtain ⟨n1, n2, n3, n4, n5, n6, n7⟩ := hMN.1 j hj
      have h16 : (T.w j).length ≤ 16 := by
        rcases Nat.eq_zero_or_pos j with q | q
        · rw [q, hW.2.2.2.2.1]; decide
        · exact (hW.2.2.2.2.2.1 j q hj).2
      have hjj : ∀ k, k < n → nI j = nI k → k = j := fun k h1 h2 => (pu_nI h2 (by omega) (by omega)).symm
      refine sp_iload_n X (pc := 12) (x := y) dX12_name_12 rfl rfl ?_
      refine sp_if_lt X (pc := 13) (tgt := 40) dX12_name_13 (by decide) (fun hb13 => ?_) (fun hb13 => ?_)
      · have hno : ¬ ∃ k i, k < n ∧ nI j = nI k ∧ i < (T.w k).length ∧ y = nI i := fun ⟨k, i, q1, q2, q3, q4⟩ => by
          rw [hjj k q1 q2] at q3
          rw [q4] at hb13; exact nI_pos (by omega) hb13
        refine sp_iconst X (pc := 40) (v := (-1)) dX12_name_40 (by decide) ?_
        refine sp_ireturn X (pc := 41) dX12_name_41 rfl ⟨_, rfl, ?_⟩
        first | exact ⟨Or.inl ⟨j, i, hj, rfl, hi, rfl, rfl⟩, rfl⟩ | exact ⟨Or.inr ⟨hno, rfl⟩, rfl⟩
      · refine sp_iload_n X (pc := 16) (x := y) dX12_name_16 rfl rfl ?_
        refine sp_aload_n X (pc := 17) (r := some (B 0)) dX12_name_17 rfl rfl ?_
        refine sp_getfield X (pc := 18) (c := 13) (i := 10) (t := 2) (a := (B 0)) (v := va_rf (some (B 10))) rfl hVm.r.o (by decide) rfl (congrArg va_rf hVm.f10) fl_Mo_32 dX12_name_18 ?_
        refine sp_iload_n X (pc := 21) (x := (nI j)) dX12_name_21 rfl rfl ?_
        refine sp_iaload X (pc := 22) (a := (B 10)) rfl (Or.inl hVm.y10) (sp_in j hVm.l10 (by omega) (by decide)) dX12_name_22 ?_
        rw [show (m.aI (B 10) (nI j).toNatClampNeg) = (m.aI (B 10) j) from (congrArg _ (nI_clamp (n := j) (by omega)))]
        rw [show (m.aI (B 10) j) = (nI (T.w j).length) from n6]
        refine sp_icmp_ge X (pc := 23) (tgt := 40) dX12_name_23 (by decide) (fun hb23 => ?_) (fun hb23 => ?_)
        · have hno : ¬ ∃ k i, k < n ∧ nI j = nI k ∧ i < (T.w k).length ∧ y = nI i := fun ⟨k, i, q1, q2, q3, q4⟩ => by
            rw [hjj k q1 q2] at q3
            rw [q4] at hb23; have := sp_nge hb23 (by omega) (by omega); omega
          refine sp_iconst X (pc := 40) (v := (-1)) dX12_name_40 (by decide) ?_
          refine sp_ireturn X (pc := 41) dX12_name_41 rfl ⟨_, rfl, ?_⟩
          first | exact ⟨Or.inl ⟨j, i, hj, rfl, hi, rfl, rfl⟩, rfl⟩ | exact ⟨Or.inr ⟨hno, rfl⟩, rfl⟩
        · obtain ⟨i, hi, rfl⟩ := sp_idx (s := (T.w j).length) (by omega) hb13 hb23
          refine sp_aload_n X (pc := 26) (r := some (B 0)) dX12_name_26 rfl rfl ?_
          refine sp_getfield X (pc := 27) (c := 13) (i := 11) (t := 2) (a := (B 0)) (v := va_rf (some (B 11))) rfl hVm.r.o (by decide) rfl (congrArg va_rf hVm.f11) fl_Mo_35 dX12_name_27 ?_
          refine sp_bipush X (pc := 30) (v := 16) dX12_name_30 (by decide) ?_
          refine sp_iload_n X (pc := 32) (x := (nI j)) dX12_name_32 rfl rfl ?_
          refine sp_imul X (pc := 33) dX12_name_33 ?_
          rw [show (16 * (nI j)) = (nI (16 * j)) from (sp_mul 16 j)]
          refine sp_iload_n X (pc := 34) (x := (nI i)) dX12_name_34 rfl rfl ?_
          refine sp_iadd X (pc := 35) dX12_name_35 ?_
          rw [show ((nI (16 * j)) + (nI i)) = (nI ((16 * j) + i)) from (nI_add (16 * j) i)]
          refine sp_iaload X (pc := 36) (a := (B 11)) rfl (Or.inl hVm.y11) (sp_in ((16 * j) + i) hVm.l11 (by omega) (by decide)) dX12_name_36 ?_
          rw [show (m.aI (B 11) (nI ((16 * j) + i)).toNatClampNeg) = (m.aI (B 11) ((16 * j) + i)) from (congrArg _ (nI_clamp (n := ((16 * j) + i)) (by omega)))]
          rw [show (m.aI (B 11) ((16 * j) + i)) = ((T.w j).getD i 0) from (n7 i hi)]
          refine sp_goto X (pc := 37) (tgt := 41) dX12_name_37 (by decide) ?_
          refine sp_ireturn X (pc := 41) dX12_name_41 rfl ⟨_, rfl, ?_⟩
          first | exact ⟨Or.inl ⟨j, i, hj, rfl, hi, rfl, rfl⟩, rfl⟩ | exact ⟨Or.inr ⟨hno, rfl⟩, rfl⟩
set_option maxRecDepth 20000 in
theorem c_Mo_told (l : Launch) (G : sp_G) (m : sp_M) {B : Nat → Nat} {m0 : sp_M} {D : Nat → Int32} {R : Int32} {l0 l1 : Int64} {d n b p t e L ws : Nat} {vq vm vl : Int32} {vs : Int64} {vA vE : Nat → Int64} (hVm : sp_V B m0 m D R l0 l1 d n b p t e L ws vq vm vl vs vA vE) {x : Int32} : sp_C l G M_Mo_told 0 0 [.ref (B 0), .int x] m (sp_oI fun v m' => pu_tl v (nI n) (nI b) (nI p) (nI t) (nI e) vm vl vq x ∧ m' = m) := by
  refine sp_enter (lv0 := [(0, false, va_rf (some (B 0))), (1, false, .int x)]) "SafePathsModel" false rfl (by decide) (fun h => by cases h) (Nat.le_of_ble_eq_true rfl) rfl ?_
  intro w X
  have bd := hVm.hd
  have bn := hVm.hn
  have bb := hVm.hb
  have bp := hVm.hp
  have bt := hVm.ht
  have be := hVm.he
  have bw := hVm.hw
  have bL := hVm.hL
  refine sp_iload_n X (pc := 0) (x := x) dX12_told_0 rfl rfl ?_
  refine sp_if_lt X (pc := 1) (tgt := 10) dX12_told_1 (by decide) (fun hb1 => ?_) (fun hb1 => ?_)
  · refine sp_bipush X (pc := 10) (v := (-7)) dX12_told_10 (by decide) ?_
    refine sp_ireturn X (pc := 12) dX12_told_12 rfl ⟨_, rfl, ?_⟩
    refine ⟨Or.inr (Or.inr (Or.inr (Or.inr (Or.inr (Or.inr (Or.inr (Or.inr ⟨⟨?_, ?_, ?_, ?_, ?_, ?_, ?_, ?_⟩, rfl⟩))))))), rfl⟩
    all_goals
      intro z
      first
        | (rw [z] at hb1; exact absurd hb1 (by decide))
        | (rw [z] at hb7; exact absurd (by decide) hb7)
  · refine sp_iload_n X (pc := 4) (x := x) dX12_told_4 rfl rfl ?_
    refine sp_bipush X (pc := 5) (v := 7) dX12_told_5 (by decide) ?_
    refine sp_icmp_le X (pc := 7) (tgt := 13) dX12_told_7 (by decide) (fun hb7 => ?_) (fun hb7 => ?_)
    · refine sp_iload_n X (pc := 13) (x := x) dX12_told_13 rfl rfl ?_
      refine sp_if_ne X (pc := 14) (tgt := 24) dX12_told_14 (by decide) (fun hb14 => ?_) (fun hb14 => ?_)
      · refine sp_iload_n X (pc := 24) (x := x) dX12_told_24 rfl rfl ?_
        refine sp_iconst X (pc := 25) (v := 1) dX12_told_25 (by decide) ?_
        refine sp_icmp_ne X (pc := 26) (tgt := 36) dX12_told_26 (by decide) (fun hb26 => ?_) (fun hb26 => ?_)
        · refine sp_iload_n X (pc := 36) (x := x) dX12_told_36 rfl rfl ?_
          refine sp_iconst X (pc := 37) (v := 2) dX12_told_37 (by decide) ?_
          refine sp_icmp_ne X (pc := 38) (tgt := 48) dX12_told_38 (by decide) (fun hb38 => ?_) (fun hb38 => ?_)
          · refine sp_iload_n X (pc := 48) (x := x) dX12_told_48 rfl rfl ?_
            refine sp_iconst X (pc := 49) (v := 3) dX12_told_49 (by decide) ?_
            refine sp_icmp_ne X (pc := 50) (tgt := 60) dX12_told_50 (by decide) (fun hb50 => ?_) (fun hb50 => ?_)
            · refine sp_iload_n X (pc := 60) (x := x) dX12_told_60 rfl rfl ?_
              refine sp_iconst X (pc := 61) (v := 4) dX12_told_61 (by decide) ?_
              refine sp_icmp_ne X (pc := 62) (tgt := 72) dX12_told_62 (by decide) (fun hb62 => ?_) (fun hb62 => ?_)
              · refine sp_iload_n X (pc := 72) (x := x) dX12_told_72 rfl rfl ?_
                refine sp_iconst X (pc := 73) (v := 5) dX12_told_73 (by decide) ?_
                refine sp_icmp_ne X (pc := 74) (tgt := 84) dX12_told_74 (by decide) (fun hb74 => ?_) (fun hb74 => ?_)
                · refine sp_iload_n X (pc := 84) (x := x) dX12_told_84 rfl rfl ?_
                  refine sp_bipush X (pc := 85) (v := 6) dX12_told_85 (by decide) ?_
                  refine sp_icmp_ne X (pc := 87) (tgt := 97) dX12_told_87 (by decide) (fun hb87 => ?_) (fun hb87 => ?_)
                  · have h7 : x = 7 := by
                      obtain ⟨j, hj, hx⟩ := sp_idx (s := 8) (by omega) hb1 (fun q => by
                        have q1 := Int32.le_iff_toInt_le.mp q
                        have q2 := Int32.le_iff_toInt_le.mp hb7
                        have : (nI 8).toInt = 8 := by decide +kernel
                        have : (7 : Int32).toInt = 7 := by decide +kernel
                        omega)
                      have a0 : j ≠ 0 := fun z => hb14 (by rw [hx, z]; rfl)
                      have a1 : j ≠ 1 := fun z => hb26 (by rw [hx, z]; rfl)
                      have a2 : j ≠ 2 := fun z => hb38 (by rw [hx, z]; rfl)
                      have a3 : j ≠ 3 := fun z => hb50 (by rw [hx, z]; rfl)
                      have a4 : j ≠ 4 := fun z => hb62 (by rw [hx, z]; rfl)
                      have a5 : j ≠ 5 := fun z => hb74 (by rw [hx, z]; rfl)
                      have a6 : j ≠ 6 := fun z => hb87 (by rw [hx, z]; rfl)
                      have a7 : j = 7 := by omega
                      rw [hx, a7]; rfl
                    refine sp_aload_n X (pc := 97) (r := some (B 0)) dX12_told_97 rfl rfl ?_
                    refine sp_getfield X (pc := 98) (c := 13) (i := 13) (t := 0) (a := (B 0)) (v := .int vq) rfl hVm.r.o (by decide) rfl (congrArg Value.int hVm.cq) fl_Mo_227 dX12_told_98 ?_
                    refine sp_ireturn X (pc := 101) dX12_told_101 rfl ⟨_, rfl, ?_⟩
                    first
                      | exact ⟨Or.inl ⟨hb14, rfl⟩, rfl⟩
                      | exact ⟨Or.inr (Or.inl ⟨hb26, rfl⟩), rfl⟩
                      | exact ⟨Or.inr (Or.inr (Or.inl ⟨hb38, rfl⟩)), rfl⟩
                      | exact ⟨Or.inr (Or.inr (Or.inr (Or.inl ⟨hb50, rfl⟩))), rfl⟩
                      | exact ⟨Or.inr (Or.inr (Or.inr (Or.inr (Or.inl ⟨hb62, rfl⟩)))), rfl⟩
                      | exact ⟨Or.inr (Or.inr (Or.inr (Or.inr (Or.inr (Or.inl ⟨hb74, rfl⟩))))), rfl⟩
                      | exact ⟨Or.inr (Or.inr (Or.inr (Or.inr (Or.inr (Or.inr (Or.inl ⟨hb87, rfl⟩)))))), rfl⟩
                      | exact ⟨Or.inr (Or.inr (Or.inr (Or.inr (Or.inr (Or.inr (Or.inr (Or.inl ⟨h7, rfl⟩))))))), rfl⟩
                  · refine sp_aload_n X (pc := 90) (r := some (B 0)) dX12_told_90 rfl rfl ?_
                    refine sp_getfield X (pc := 91) (c := 13) (i := 33) (t := 0) (a := (B 0)) (v := .int vl) rfl hVm.r.o (by decide) rfl (congrArg Value.int hVm.cl) fl_Mo_203 dX12_told_91 ?_
                    refine sp_goto X (pc := 94) (tgt := 101) dX12_told_94 (by decide) ?_
                    refine sp_ireturn X (pc := 101) dX12_told_101 rfl ⟨_, rfl, ?_⟩
                    first
                      | exact ⟨Or.inl ⟨hb14, rfl⟩, rfl⟩
                      | exact ⟨Or.inr (Or.inl ⟨hb26, rfl⟩), rfl⟩
                      | exact ⟨Or.inr (Or.inr (Or.inl ⟨hb38, rfl⟩)), rfl⟩
                      | exact ⟨Or.inr (Or.inr (Or.inr (Or.inl ⟨hb50, rfl⟩))), rfl⟩
                      | exact ⟨Or.inr (Or.inr (Or.inr (Or.inr (Or.inl ⟨hb62, rfl⟩)))), rfl⟩
                      | exact ⟨Or.inr (Or.inr (Or.inr (Or.inr (Or.inr (Or.inl ⟨hb74, rfl⟩))))), rfl⟩
                      | exact ⟨Or.inr (Or.inr (Or.inr (Or.inr (Or.inr (Or.inr (Or.inl ⟨hb87, rfl⟩)))))), rfl⟩
                      | exact ⟨Or.inr (Or.inr (Or.inr (Or.inr (Or.inr (Or.inr (Or.inr (Or.inl ⟨h7, rfl⟩))))))), rfl⟩
                · refine sp_aload_n X (pc := 77) (r := some (B 0)) dX12_told_77 rfl rfl ?_
                  refine sp_getfield X (pc := 78) (c := 13) (i := 31) (t := 0) (a := (B 0)) (v := .int vm) rfl hVm.r.o (by decide) rfl (congrArg Value.int hVm.cm) fl_Mo_217 dX12_told_78 ?_
                  refine sp_goto X (pc := 81) (tgt := 101) dX12_told_81 (by decide) ?_
                  refine sp_ireturn X (pc := 101) dX12_told_101 rfl ⟨_, rfl, ?_⟩
                  first
                    | exact ⟨Or.inl ⟨hb14, rfl⟩, rfl⟩
                    | exact ⟨Or.inr (Or.inl ⟨hb26, rfl⟩), rfl⟩
                    | exact ⟨Or.inr (Or.inr (Or.inl ⟨hb38, rfl⟩)), rfl⟩
                    | exact ⟨Or.inr (Or.inr (Or.inr (Or.inl ⟨hb50, rfl⟩))), rfl⟩
                    | exact ⟨Or.inr (Or.inr (Or.inr (Or.inr (Or.inl ⟨hb62, rfl⟩)))), rfl⟩
                    | exact ⟨Or.inr (Or.inr (Or.inr (Or.inr (Or.inr (Or.inl ⟨hb74, rfl⟩))))), rfl⟩
                    | exact ⟨Or.inr (Or.inr (Or.inr (Or.inr (Or.inr (Or.inr (Or.inl ⟨hb87, rfl⟩)))))), rfl⟩
                    | exact ⟨Or.inr (Or.inr (Or.inr (Or.inr (Or.inr (Or.inr (Or.inr (Or.inl ⟨h7, rfl⟩))))))), rfl⟩
              · refine sp_aload_n X (pc := 65) (r := some (B 0)) dX12_told_65 rfl rfl ?_
                refine sp_getfield X (pc := 66) (c := 13) (i := 24) (t := 0) (a := (B 0)) (v := .int (nI e)) rfl hVm.r.o (by decide) rfl (congrArg Value.int hVm.ce) fl_Mo_183 dX12_told_66 ?_
                refine sp_goto X (pc := 69) (tgt := 101) dX12_told_69 (by decide) ?_
                refine sp_ireturn X (pc := 101) dX12_told_101 rfl ⟨_, rfl, ?_⟩
                first
                  | exact ⟨Or.inl ⟨hb14, rfl⟩, rfl⟩
                  | exact ⟨Or.inr (Or.inl ⟨hb26, rfl⟩), rfl⟩
                  | exact ⟨Or.inr (Or.inr (Or.inl ⟨hb38, rfl⟩)), rfl⟩
                  | exact ⟨Or.inr (Or.inr (Or.inr (Or.inl ⟨hb50, rfl⟩))), rfl⟩
                  | exact ⟨Or.inr (Or.inr (Or.inr (Or.inr (Or.inl ⟨hb62, rfl⟩)))), rfl⟩
                  | exact ⟨Or.inr (Or.inr (Or.inr (Or.inr (Or.inr (Or.inl ⟨hb74, rfl⟩))))), rfl⟩
                  | exact ⟨Or.inr (Or.inr (Or.inr (Or.inr (Or.inr (Or.inr (Or.inl ⟨hb87, rfl⟩)))))), rfl⟩
                  | exact ⟨Or.inr (Or.inr (Or.inr (Or.inr (Or.inr (Or.inr (Or.inr (Or.inl ⟨h7, rfl⟩))))))), rfl⟩
            · refine sp_aload_n X (pc := 53) (r := some (B 0)) dX12_told_53 rfl rfl ?_
              refine sp_getfield X (pc := 54) (c := 13) (i := 21) (t := 0) (a := (B 0)) (v := .int (nI t)) rfl hVm.r.o (by decide) rfl (congrArg Value.int hVm.ct) fl_Mo_152 dX12_told_54 ?_
              refine sp_goto X (pc := 57) (tgt := 101) dX12_told_57 (by decide) ?_
              refine sp_ireturn X (pc := 101) dX12_told_101 rfl ⟨_, rfl, ?_⟩
              first
                | exact ⟨Or.inl ⟨hb14, rfl⟩, rfl⟩
                | exact ⟨Or.inr (Or.inl ⟨hb26, rfl⟩), rfl⟩
                | exact ⟨Or.inr (Or.inr (Or.inl ⟨hb38, rfl⟩)), rfl⟩
                | exact ⟨Or.inr (Or.inr (Or.inr (Or.inl ⟨hb50, rfl⟩))), rfl⟩
                | exact ⟨Or.inr (Or.inr (Or.inr (Or.inr (Or.inl ⟨hb62, rfl⟩)))), rfl⟩
                | exact ⟨Or.inr (Or.inr (Or.inr (Or.inr (Or.inr (Or.inl ⟨hb74, rfl⟩))))), rfl⟩
                | exact ⟨Or.inr (Or.inr (Or.inr (Or.inr (Or.inr (Or.inr (Or.inl ⟨hb87, rfl⟩)))))), rfl⟩
                | exact ⟨Or.inr (Or.inr (Or.inr (Or.inr (Or.inr (Or.inr (Or.inr (Or.inl ⟨h7, rfl⟩))))))), rfl⟩
          · refine sp_aload_n X (pc := 41) (r := some (B 0)) dX12_told_41 rfl rfl ?_
            refine sp_getfield X (pc := 42) (c := 13) (i := 17) (t := 0) (a := (B 0)) (v := .int (nI p)) rfl hVm.r.o (by decide) rfl (congrArg Value.int hVm.cp) fl_Mo_146 dX12_told_42 ?_
            refine sp_goto X (pc := 45) (tgt := 101) dX12_told_45 (by decide) ?_
            refine sp_ireturn X (pc := 101) dX12_told_101 rfl ⟨_, rfl, ?_⟩
            first
              | exact ⟨Or.inl ⟨hb14, rfl⟩, rfl⟩
              | exact ⟨Or.inr (Or.inl ⟨hb26, rfl⟩), rfl⟩
              | exact ⟨Or.inr (Or.inr (Or.inl ⟨hb38, rfl⟩)), rfl⟩
              | exact ⟨Or.inr (Or.inr (Or.inr (Or.inl ⟨hb50, rfl⟩))), rfl⟩
              | exact ⟨Or.inr (Or.inr (Or.inr (Or.inr (Or.inl ⟨hb62, rfl⟩)))), rfl⟩
              | exact ⟨Or.inr (Or.inr (Or.inr (Or.inr (Or.inr (Or.inl ⟨hb74, rfl⟩))))), rfl⟩
              | exact ⟨Or.inr (Or.inr (Or.inr (Or.inr (Or.inr (Or.inr (Or.inl ⟨hb87, rfl⟩)))))), rfl⟩
              | exact ⟨Or.inr (Or.inr (Or.inr (Or.inr (Or.inr (Or.inr (Or.inr (Or.inl ⟨h7, rfl⟩))))))), rfl⟩
        · refine sp_aload_n X (pc := 29) (r := some (B 0)) dX12_told_29 rfl rfl ?_
          refine sp_getfield X (pc := 30) (c := 13) (i := 14) (t := 0) (a := (B 0)) (v := .int (nI b)) rfl hVm.r.o (by decide) rfl (congrArg Value.int hVm.cb) fl_Mo_112 dX12_told_30 ?_
          refine sp_goto X (pc := 33) (tgt := 101) dX12_told_33 (by decide) ?_
          refine sp_ireturn X (pc := 101) dX12_told_101 rfl ⟨_, rfl, ?_⟩
          first
            | exact ⟨Or.inl ⟨hb14, rfl⟩, rfl⟩
            | exact ⟨Or.inr (Or.inl ⟨hb26, rfl⟩), rfl⟩
            | exact ⟨Or.inr (Or.inr (Or.inl ⟨hb38, rfl⟩)), rfl⟩
            | exact ⟨Or.inr (Or.inr (Or.inr (Or.inl ⟨hb50, rfl⟩))), rfl⟩
            | exact ⟨Or.inr (Or.inr (Or.inr (Or.inr (Or.inl ⟨hb62, rfl⟩)))), rfl⟩
            | exact ⟨Or.inr (Or.inr (Or.inr (Or.inr (Or.inr (Or.inl ⟨hb74, rfl⟩))))), rfl⟩
            | exact ⟨Or.inr (Or.inr (Or.inr (Or.inr (Or.inr (Or.inr (Or.inl ⟨hb87, rfl⟩)))))), rfl⟩
            | exact ⟨Or.inr (Or.inr (Or.inr (Or.inr (Or.inr (Or.inr (Or.inr (Or.inl ⟨h7, rfl⟩))))))), rfl⟩
      · refine sp_aload_n X (pc := 17) (r := some (B 0)) dX12_told_17 rfl rfl ?_
        refine sp_getfield X (pc := 18) (c := 13) (i := 3) (t := 0) (a := (B 0)) (v := .int (nI n)) rfl hVm.r.o (by decide) rfl (congrArg Value.int hVm.cn) fl_Mo_115 dX12_told_18 ?_
        refine sp_goto X (pc := 21) (tgt := 101) dX12_told_21 (by decide) ?_
        refine sp_ireturn X (pc := 101) dX12_told_101 rfl ⟨_, rfl, ?_⟩
        first
          | exact ⟨Or.inl ⟨hb14, rfl⟩, rfl⟩
          | exact ⟨Or.inr (Or.inl ⟨hb26, rfl⟩), rfl⟩
          | exact ⟨Or.inr (Or.inr (Or.inl ⟨hb38, rfl⟩)), rfl⟩
          | exact ⟨Or.inr (Or.inr (Or.inr (Or.inl ⟨hb50, rfl⟩))), rfl⟩
          | exact ⟨Or.inr (Or.inr (Or.inr (Or.inr (Or.inl ⟨hb62, rfl⟩)))), rfl⟩
          | exact ⟨Or.inr (Or.inr (Or.inr (Or.inr (Or.inr (Or.inl ⟨hb74, rfl⟩))))), rfl⟩
          | exact ⟨Or.inr (Or.inr (Or.inr (Or.inr (Or.inr (Or.inr (Or.inl ⟨hb87, rfl⟩)))))), rfl⟩
          | exact ⟨Or.inr (Or.inr (Or.inr (Or.inr (Or.inr (Or.inr (Or.inr (Or.inl ⟨h7, rfl⟩))))))), rfl⟩
    · refine sp_bipush X (pc := 10) (v := (-7)) dX12_told_10 (by decide) ?_
      refine sp_ireturn X (pc := 12) dX12_told_12 rfl ⟨_, rfl, ?_⟩
      refine ⟨Or.inr (Or.inr (Or.inr (Or.inr (Or.inr (Or.inr (Or.inr (Or.inr ⟨⟨?_, ?_, ?_, ?_, ?_, ?_, ?_, ?_⟩, rfl⟩))))))), rfl⟩
      all_goals
        intro z
        first
          | (rw [z] at hb1; exact absurd hb1 (by decide))
          | (rw [z] at hb7; exact absurd (by decide) hb7)
set_option maxRecDepth 20000 in
theorem c_Mo_body (l : Launch) (G : sp_G) (m : sp_M) {B : Nat → Nat} {m0 : sp_M} {D : Nat → Int32} {R : Int32} {l0 l1 : Int64} {d n b p t e ws : Nat} {vq vm vl : Int32} {vs : Int64} {vA vE : Nat → Int64} (hVm : sp_V B m0 m D R l0 l1 d n b p t e n ws vq vm vl vs vA vE)  {Z : pu_Z} {nt0 : Nat} (hMZ : sp_mZ m B n b vq vm vs vA Z) (hZW : pu_ZW nt0 Z) {x y : Int32} : sp_C l G M_Mo_body 0 0 [.ref (B 0), .int x, .int y] m (sp_oL fun v m' => pu_body v Z x y ∧ m' = m) := by
  refine sp_enter (lv0 := [(0, false, va_rf (some (B 0))), (1, false, .int x), (2, false, .int y)]) "SafePathsModel" false rfl (by decide) (fun h => by cases h) (Nat.le_of_ble_eq_true rfl) rfl ?_
  intro w X
  have bd := hVm.hd
  have bn := hVm.hn
  have bb := hVm.hb
  have bp := hVm.hp
  have bt := hVm.ht
  have be := hVm.he
  have bw := hVm.hw
  have bL := hVm.hL
  obtain ⟨⟨hZn, hZb⟩, hMN, hMB, hMQ, hvq, hvm, hvs⟩ := id hMZ
  have hW : pu_W n b nt0 Z.T := by rw [hZn, hZb]; exact hZW.1
  have h4 := hW.1.1
  refine sp_iload_n X (pc := 0) (x := x) dX12_body_0 rfl rfl ?_
  refine sp_if_lt X (pc := 1) (tgt := 21) dX12_body_1 (by decide) (fun hb1 => ?_) (fun hb1 => ?_)
  · have hno : ¬ (∃ j, j < Z.b ∧ x = nI j) ∨ ¬ (y = 0 ∨ y = 1 ∨ y = 2) := Or.inl (fun ⟨j, q1, q2⟩ => by rw [q2] at hb1; exact nI_pos (by omega) hb1)
    refine sp_ldc2 X (pc := 21) (v := (-7)) kl_Mo_236 dX12_body_21 ?_
    refine sp_lreturn X (pc := 24) dX12_body_24 ⟨_, rfl, ?_⟩
    exact ⟨Or.inl ⟨hno, rfl⟩, rfl⟩
  · refine sp_iload_n X (pc := 4) (x := x) dX12_body_4 rfl rfl ?_
    refine sp_aload_n X (pc := 5) (r := some (B 0)) dX12_body_5 rfl rfl ?_
    refine sp_getfield X (pc := 6) (c := 13) (i := 14) (t := 0) (a := (B 0)) (v := .int (nI b)) rfl hVm.r.o (by decide) rfl (congrArg Value.int hVm.cb) fl_Mo_112 dX12_body_6 ?_
    refine sp_icmp_ge X (pc := 9) (tgt := 21) dX12_body_9 (by decide) (fun hb9 => ?_) (fun hb9 => ?_)
    · have hno : ¬ (∃ j, j < Z.b ∧ x = nI j) ∨ ¬ (y = 0 ∨ y = 1 ∨ y = 2) := Or.inl (fun ⟨j, q1, q2⟩ => by rw [q2] at hb9; have := sp_nge hb9 (by omega) (by omega); omega)
      refine sp_ldc2 X (pc := 21) (v := (-7)) kl_Mo_236 dX12_body_21 ?_
      refine sp_lreturn X (pc := 24) dX12_body_24 ⟨_, rfl, ?_⟩
      exact ⟨Or.inl ⟨hno, rfl⟩, rfl⟩
    · obtain ⟨j, hj, rfl⟩ := sp_idx (s := b) (by omega) hb1 hb9
      have hjb : j < Z.b := by rw [← hZb]; exact hj
      obtain ⟨b1, b2⟩ := hMB j hj
      refine sp_iload_n X (pc := 12) (x := y) dX12_body_12 rfl rfl ?_
      refine sp_if_lt X (pc := 13) (tgt := 21) dX12_body_13 (by decide) (fun hb13 => ?_) (fun hb13 => ?_)
      · have hno : ¬ (∃ i, i < Z.b ∧ nI j = nI i) ∨ ¬ (y = 0 ∨ y = 1 ∨ y = 2) := Or.inr (by rintro (q | q | q) <;> (rw [q] at hb13; exact absurd hb13 (by decide)))
        refine sp_ldc2 X (pc := 21) (v := (-7)) kl_Mo_236 dX12_body_21 ?_
        refine sp_lreturn X (pc := 24) dX12_body_24 ⟨_, rfl, ?_⟩
        exact ⟨Or.inl ⟨hno, rfl⟩, rfl⟩
      · refine sp_iload_n X (pc := 16) (x := y) dX12_body_16 rfl rfl ?_
        refine sp_iconst X (pc := 17) (v := 2) dX12_body_17 (by decide) ?_
        refine sp_icmp_le X (pc := 18) (tgt := 25) dX12_body_18 (by decide) (fun hb18 => ?_) (fun hb18 => ?_)
        · have hy3 : y = 0 ∨ y = 1 ∨ y = 2 := by
            obtain ⟨i, hi, hx⟩ := sp_idx (s := 3) (by omega) hb13 (fun q => by
              have q1 := Int32.le_iff_toInt_le.mp q
              have q2 := Int32.le_iff_toInt_le.mp hb18
              have : (nI 3).toInt = 3 := by decide +kernel
              have : (2 : Int32).toInt = 2 := by decide +kernel
              omega)
            have : i = 0 ∨ i = 1 ∨ i = 2 := by omega
            rcases this with z | z | z
            · exact Or.inl (by rw [hx, z]; rfl)
            · exact Or.inr (Or.inl (by rw [hx, z]; rfl))
            · exact Or.inr (Or.inr (by rw [hx, z]; rfl))
          refine sp_iload_n X (pc := 25) (x := y) dX12_body_25 rfl rfl ?_
          refine sp_iconst X (pc := 26) (v := 2) dX12_body_26 (by decide) ?_
          refine sp_icmp_ge X (pc := 27) (tgt := 51) dX12_body_27 (by decide) (fun hb27 => ?_) (fun hb27 => ?_)
          · have hy2 : y = 2 := by
              rcases hy3 with q | q | q
              · rw [q] at hb27; exact absurd hb27 (by decide)
              · rw [q] at hb27; exact absurd hb27 (by decide)
              · exact q
            refine sp_lconst X (pc := 51) (v := 0) dX12_body_51 (by decide) ?_
            refine sp_lstore_n X (pc := 52) (lv' := [(3, true, .long 0), (0, false, va_rf (some (B 0))), (1, false, .int (nI j)), (2, false, .int y)]) dX12_body_52 rfl (by decide) rfl ?_
            refine sp_iconst X (pc := 53) (v := 0) dX12_body_53 (by decide) ?_
            refine sp_istore X (pc := 54) (lv' := [(5, false, .int 0), (3, true, .long 0), (0, false, va_rf (some (B 0))), (1, false, .int (nI j)), (2, false, .int y)]) dX12_body_54  (by decide) rfl ?_
            have loop56 : ∀ (dz : Nat) (k : Nat), k ≤ n → n - k = dz → w 0 0 m 56 [(0, false, va_rf (some (B 0))), (1, false, .int (nI j)), (3, true, .long ((nI (pu_ct (fun q => Z.T.g q = 0 ∧ Z.T.k q = 1 ∧ Z.T.h q = j) k)).toInt64)), (5, false, .int (nI k))] [] := by
              intro dz
              induction dz using Nat.strongRecOn with
              | ind dz ih =>
                intro k hk0 hdz
                refine sp_iload X (pc := 56) (x := nI k) dX12_body_56 rfl ?_
                refine sp_aload_n X (pc := 58) (r := some (B 0)) dX12_body_58 rfl rfl ?_
                refine sp_getfield X (pc := 59) (c := 13) (i := 3) (t := 0) (a := (B 0)) (v := .int (nI n)) rfl hVm.r.o (by decide) rfl (congrArg Value.int hVm.cn) fl_Mo_115 dX12_body_59 ?_
                refine sp_icmp_ge X (pc := 62) (tgt := 111) dX12_body_62 (by decide) (fun hb62 => ?_) (fun hb62 => ?_)
                · have hk : k = n := by
                    have := sp_nge hb62 (by omega) (by omega)
                    omega
                  refine sp_lload_n X (pc := 111) (x := ((nI (pu_ct (fun q => Z.T.g q = 0 ∧ Z.T.k q = 1 ∧ Z.T.h q = j) k)).toInt64)) dX12_body_111 rfl rfl ?_
                  refine sp_lreturn X (pc := 112) dX12_body_112 ⟨_, rfl, ?_⟩
                  exact ⟨Or.inr ⟨j, hjb, rfl, Or.inr (Or.inr ⟨hy2, by rw [hk, hZn]; rfl⟩)⟩, rfl⟩
                · have hk : k < n := sp_nlt hb62 (by omega)
                  obtain ⟨n1, n2, n3, n4, n5, -⟩ := hMN.1 k hk
                  have n9 := hMN.2.2 k hk
                  have hck := pu_ct_le (fun q => Z.T.g q = 0 ∧ Z.T.k q = 1 ∧ Z.T.h q = j) k
                  refine sp_lload_n X (pc := 65) (x := ((nI (pu_ct (fun q => Z.T.g q = 0 ∧ Z.T.k q = 1 ∧ Z.T.h q = j) k)).toInt64)) dX12_body_65 rfl rfl ?_
                  refine sp_aload_n X (pc := 66) (r := some (B 0)) dX12_body_66 rfl rfl ?_
                  refine sp_getfield X (pc := 67) (c := 13) (i := 7) (t := 2) (a := (B 0)) (v := va_rf (some (B 7))) rfl hVm.r.o (by decide) rfl (congrArg va_rf hVm.f7) fl_Mo_23 dX12_body_67 ?_
                  refine sp_iload X (pc := 70) (x := nI k) dX12_body_70 rfl ?_
                  refine sp_baload X (pc := 72) (a := (B 7)) rfl hVm.y7 (sp_in k hVm.l7 (by omega) (by decide)) dX12_body_72 ?_
                  rw [show (m.aI (B 7) (nI k).toNatClampNeg) = (m.aI (B 7) k) from (congrArg _ (nI_clamp (n := k) (by omega)))]
                  rw [show (m.aI (B 7) k) = (Z.T.g k) from n4]
                  refine sp_if_ne X (pc := 73) (tgt := 102) dX12_body_73 (by decide) (fun hb73 => ?_) (fun hb73 => ?_)
                  · have hct : pu_ct (fun q => Z.T.g q = 0 ∧ Z.T.k q = 1 ∧ Z.T.h q = j) (k + 1) = pu_ct (fun q => Z.T.g q = 0 ∧ Z.T.k q = 1 ∧ Z.T.h q = j) k := pu_ct_f (fun z => hb73 z.1)
                    refine sp_lconst X (pc := 102) (v := 0) dX12_body_102 (by decide) ?_
                    refine sp_ladd X (pc := 103) dX12_body_103 ?_
                    rw [show (((nI (pu_ct (fun q => Z.T.g q = 0 ∧ Z.T.k q = 1 ∧ Z.T.h q = j) k)).toInt64) + 0) = ((nI (pu_ct (fun q => Z.T.g q = 0 ∧ Z.T.k q = 1 ∧ Z.T.h q = j) (k + 1))).toInt64) from (by rw [hct]; first | exact sp_t64 (by omega) | exact Int64.add_zero _)]
                    refine sp_lstore_n X (pc := 104) (lv' := [(3, true, .long ((nI (pu_ct (fun q => Z.T.g q = 0 ∧ Z.T.k q = 1 ∧ Z.T.h q = j) (k + 1))).toInt64)), (0, false, va_rf (some (B 0))), (1, false, .int (nI j)), (5, false, .int (nI k))]) dX12_body_104 rfl (by decide) rfl ?_
                    refine sp_iinc X (pc := 105) (v := (nI (k + 1))) (lv' := [(5, false, .int (nI (k + 1))), (3, true, .long ((nI (pu_ct (fun q => Z.T.g q = 0 ∧ Z.T.k q = 1 ∧ Z.T.h q = j) (k + 1))).toInt64)), (0, false, va_rf (some (B 0))), (1, false, .int (nI j))]) dX12_body_105 rfl ((sp_i1 k)) (by decide) rfl ?_
                    refine sp_goto X (pc := 108) (tgt := 56) dX12_body_108 (by decide) ?_
                    refine sp_pick X [2, 3, 1, 0] (lv' := [(0, false, va_rf (some (B 0))), (1, false, .int (nI j)), (3, true, .long ((nI (pu_ct (fun q => Z.T.g q = 0 ∧ Z.T.k q = 1 ∧ Z.T.h q = j) (k + 1))).toInt64)), (5, false, .int (nI (k + 1)))]) rfl ?_
                    exact ih _ (by omega) (k + 1) (by omega) rfl
                  · refine sp_aload_n X (pc := 76) (r := some (B 0)) dX12_body_76 rfl rfl ?_
                    refine sp_getfield X (pc := 77) (c := 13) (i := 4) (t := 2) (a := (B 0)) (v := va_rf (some (B 4))) rfl hVm.r.o (by decide) rfl (congrArg va_rf hVm.f4) fl_Mo_13 dX12_body_77 ?_
                    refine sp_iload X (pc := 80) (x := nI k) dX12_body_80 rfl ?_
                    refine sp_iaload X (pc := 82) (a := (B 4)) rfl (Or.inl hVm.y4) (sp_in k hVm.l4 (by omega) (by decide)) dX12_body_82 ?_
                    rw [show (m.aI (B 4) (nI k).toNatClampNeg) = (m.aI (B 4) k) from (congrArg _ (nI_clamp (n := k) (by omega)))]
                    rw [show (m.aI (B 4) k) = (Z.T.k k) from n1]
                    refine sp_iconst X (pc := 83) (v := 1) dX12_body_83 (by decide) ?_
                    refine sp_icmp_ne X (pc := 84) (tgt := 102) dX12_body_84 (by decide) (fun hb84 => ?_) (fun hb84 => ?_)
                    · have hct : pu_ct (fun q => Z.T.g q = 0 ∧ Z.T.k q = 1 ∧ Z.T.h q = j) (k + 1) = pu_ct (fun q => Z.T.g q = 0 ∧ Z.T.k q = 1 ∧ Z.T.h q = j) k := pu_ct_f (fun z => hb84 z.2.1)
                      refine sp_lconst X (pc := 102) (v := 0) dX12_body_102 (by decide) ?_
                      refine sp_ladd X (pc := 103) dX12_body_103 ?_
                      rw [show (((nI (pu_ct (fun q => Z.T.g q = 0 ∧ Z.T.k q = 1 ∧ Z.T.h q = j) k)).toInt64) + 0) = ((nI (pu_ct (fun q => Z.T.g q = 0 ∧ Z.T.k q = 1 ∧ Z.T.h q = j) (k + 1))).toInt64) from (by rw [hct]; first | exact sp_t64 (by omega) | exact Int64.add_zero _)]
                      refine sp_lstore_n X (pc := 104) (lv' := [(3, true, .long ((nI (pu_ct (fun q => Z.T.g q = 0 ∧ Z.T.k q = 1 ∧ Z.T.h q = j) (k + 1))).toInt64)), (0, false, va_rf (some (B 0))), (1, false, .int (nI j)), (5, false, .int (nI k))]) dX12_body_104 rfl (by decide) rfl ?_
                      refine sp_iinc X (pc := 105) (v := (nI (k + 1))) (lv' := [(5, false, .int (nI (k + 1))), (3, true, .long ((nI (pu_ct (fun q => Z.T.g q = 0 ∧ Z.T.k q = 1 ∧ Z.T.h q = j) (k + 1))).toInt64)), (0, false, va_rf (some (B 0))), (1, false, .int (nI j))]) dX12_body_105 rfl ((sp_i1 k)) (by decide) rfl ?_
                      refine sp_goto X (pc := 108) (tgt := 56) dX12_body_108 (by decide) ?_
                      refine sp_pick X [2, 3, 1, 0] (lv' := [(0, false, va_rf (some (B 0))), (1, false, .int (nI j)), (3, true, .long ((nI (pu_ct (fun q => Z.T.g q = 0 ∧ Z.T.k q = 1 ∧ Z.T.h q = j) (k + 1))).toInt64)), (5, false, .int (nI (k + 1)))]) rfl ?_
                      exact ih _ (by omega) (k + 1) (by omega) rfl
                    · refine sp_aload_n X (pc := 87) (r := some (B 0)) dX12_body_87 rfl rfl ?_
                      refine sp_getfield X (pc := 88) (c := 13) (i := 9) (t := 2) (a := (B 0)) (v := va_rf (some (B 9))) rfl hVm.r.o (by decide) rfl (congrArg va_rf hVm.f9) fl_Mo_29 dX12_body_88 ?_
                      refine sp_iload X (pc := 91) (x := nI k) dX12_body_91 rfl ?_
                      refine sp_iaload X (pc := 93) (a := (B 9)) rfl (Or.inl hVm.y9) (sp_in k hVm.l9 (by omega) (by decide)) dX12_body_93 ?_
                      rw [show (m.aI (B 9) (nI k).toNatClampNeg) = (m.aI (B 9) k) from (congrArg _ (nI_clamp (n := k) (by omega)))]
                      rw [show (m.aI (B 9) k) = (nI (Z.T.h k)) from (n9 (by rw [hb84]; decide))]
                      refine sp_iload_n X (pc := 94) (x := nI j) dX12_body_94 rfl rfl ?_
                      refine sp_icmp_ne X (pc := 95) (tgt := 102) dX12_body_95 (by decide) (fun hb95 => ?_) (fun hb95 => ?_)
                      · have hct : pu_ct (fun q => Z.T.g q = 0 ∧ Z.T.k q = 1 ∧ Z.T.h q = j) (k + 1) = pu_ct (fun q => Z.T.g q = 0 ∧ Z.T.k q = 1 ∧ Z.T.h q = j) k := pu_ct_f (fun z => hb95 (by rw [z.2.2]))
                        refine sp_lconst X (pc := 102) (v := 0) dX12_body_102 (by decide) ?_
                        refine sp_ladd X (pc := 103) dX12_body_103 ?_
                        rw [show (((nI (pu_ct (fun q => Z.T.g q = 0 ∧ Z.T.k q = 1 ∧ Z.T.h q = j) k)).toInt64) + 0) = ((nI (pu_ct (fun q => Z.T.g q = 0 ∧ Z.T.k q = 1 ∧ Z.T.h q = j) (k + 1))).toInt64) from (by rw [hct]; first | exact sp_t64 (by omega) | exact Int64.add_zero _)]
                        refine sp_lstore_n X (pc := 104) (lv' := [(3, true, .long ((nI (pu_ct (fun q => Z.T.g q = 0 ∧ Z.T.k q = 1 ∧ Z.T.h q = j) (k + 1))).toInt64)), (0, false, va_rf (some (B 0))), (1, false, .int (nI j)), (5, false, .int (nI k))]) dX12_body_104 rfl (by decide) rfl ?_
                        refine sp_iinc X (pc := 105) (v := (nI (k + 1))) (lv' := [(5, false, .int (nI (k + 1))), (3, true, .long ((nI (pu_ct (fun q => Z.T.g q = 0 ∧ Z.T.k q = 1 ∧ Z.T.h q = j) (k + 1))).toInt64)), (0, false, va_rf (some (B 0))), (1, false, .int (nI j))]) dX12_body_105 rfl ((sp_i1 k)) (by decide) rfl ?_
                        refine sp_goto X (pc := 108) (tgt := 56) dX12_body_108 (by decide) ?_
                        refine sp_pick X [2, 3, 1, 0] (lv' := [(0, false, va_rf (some (B 0))), (1, false, .int (nI j)), (3, true, .long ((nI (pu_ct (fun q => Z.T.g q = 0 ∧ Z.T.k q = 1 ∧ Z.T.h q = j) (k + 1))).toInt64)), (5, false, .int (nI (k + 1)))]) rfl ?_
                        exact ih _ (by omega) (k + 1) (by omega) rfl
                      · have hhk : Z.T.h k < b := by
                          rcases hW.2.2.2.1 k hk with z | ⟨-, z⟩ | ⟨z, -⟩
                          · rw [hb84] at z; exact absurd z (by decide)
                          · exact z
                          · rw [hb84] at z; exact absurd z (by decide)
                        have hct : pu_ct (fun q => Z.T.g q = 0 ∧ Z.T.k q = 1 ∧ Z.T.h q = j) (k + 1) = pu_ct (fun q => Z.T.g q = 0 ∧ Z.T.k q = 1 ∧ Z.T.h q = j) k + 1 := pu_ct_t ⟨hb73, hb84, pu_nI hb95 (by omega) (by omega)⟩
                        refine sp_lconst X (pc := 98) (v := 1) dX12_body_98 (by decide) ?_
                        refine sp_goto X (pc := 99) (tgt := 103) dX12_body_99 (by decide) ?_
                        refine sp_ladd X (pc := 103) dX12_body_103 ?_
                        rw [show (((nI (pu_ct (fun q => Z.T.g q = 0 ∧ Z.T.k q = 1 ∧ Z.T.h q = j) k)).toInt64) + 1) = ((nI (pu_ct (fun q => Z.T.g q = 0 ∧ Z.T.k q = 1 ∧ Z.T.h q = j) (k + 1))).toInt64) from (by rw [hct]; first | exact sp_t64 (by omega) | exact Int64.add_zero _)]
                        refine sp_lstore_n X (pc := 104) (lv' := [(3, true, .long ((nI (pu_ct (fun q => Z.T.g q = 0 ∧ Z.T.k q = 1 ∧ Z.T.h q = j) (k + 1))).toInt64)), (0, false, va_rf (some (B 0))), (1, false, .int (nI j)), (5, false, .int (nI k))]) dX12_body_104 rfl (by decide) rfl ?_
                        refine sp_iinc X (pc := 105) (v := (nI (k + 1))) (lv' := [(5, false, .int (nI (k + 1))), (3, true, .long ((nI (pu_ct (fun q => Z.T.g q = 0 ∧ Z.T.k q = 1 ∧ Z.T.h q = j) (k + 1))).toInt64)), (0, false, va_rf (some (B 0))), (1, false, .int (nI j))]) dX12_body_105 rfl ((sp_i1 k)) (by decide) rfl ?_
                        refine sp_goto X (pc := 108) (tgt := 56) dX12_body_108 (by decide) ?_
                        refine sp_pick X [2, 3, 1, 0] (lv' := [(0, false, va_rf (some (B 0))), (1, false, .int (nI j)), (3, true, .long ((nI (pu_ct (fun q => Z.T.g q = 0 ∧ Z.T.k q = 1 ∧ Z.T.h q = j) (k + 1))).toInt64)), (5, false, .int (nI (k + 1)))]) rfl ?_
                        exact ih _ (by omega) (k + 1) (by omega) rfl
            refine sp_pick X [2, 3, 1, 0] (lv' := [(0, false, va_rf (some (B 0))), (1, false, .int (nI j)), (3, true, .long 0), (5, false, .int 0)]) rfl ?_
            exact loop56 _ 0 (by omega) rfl
          · refine sp_iload_n X (pc := 30) (x := y) dX12_body_30 rfl rfl ?_
            refine sp_if_ne X (pc := 31) (tgt := 43) dX12_body_31 (by decide) (fun hb31 => ?_) (fun hb31 => ?_)
            · refine sp_aload_n X (pc := 43) (r := some (B 0)) dX12_body_43 rfl rfl ?_
              refine sp_getfield X (pc := 44) (c := 13) (i := 16) (t := 2) (a := (B 0)) (v := va_rf (some (B 16))) rfl hVm.r.o (by decide) rfl (congrArg va_rf hVm.f16) fl_Mo_45 dX12_body_44 ?_
              refine sp_iload_n X (pc := 47) (x := (nI j)) dX12_body_47 rfl rfl ?_
              refine sp_iaload X (pc := 48) (a := (B 16)) rfl (Or.inl hVm.y16) (sp_in j hVm.l16 (by omega) (by decide)) dX12_body_48 ?_
              rw [show (m.aI (B 16) (nI j).toNatClampNeg) = (m.aI (B 16) j) from (congrArg _ (nI_clamp (n := j) (by omega)))]
              rw [show (m.aI (B 16) j) = (Z.V j) from b2]
              refine sp_i2l X (pc := 49) dX12_body_49 ?_
              refine sp_lreturn X (pc := 50) dX12_body_50 ⟨_, rfl, ?_⟩
              first
                | exact ⟨Or.inr ⟨j, hjb, rfl, Or.inl ⟨hb31, rfl⟩⟩, rfl⟩
                | exact ⟨Or.inr ⟨j, hjb, rfl, Or.inr (Or.inl ⟨by
                    rcases hy3 with q | q | q
                    · exact absurd q hb31
                    · exact q
                    · rw [q] at hb27; exact absurd (by decide) hb27, rfl⟩)⟩, rfl⟩
            · refine sp_aload_n X (pc := 34) (r := some (B 0)) dX12_body_34 rfl rfl ?_
              refine sp_getfield X (pc := 35) (c := 13) (i := 15) (t := 2) (a := (B 0)) (v := va_rf (some (B 15))) rfl hVm.r.o (by decide) rfl (congrArg va_rf hVm.f15) fl_Mo_41 dX12_body_35 ?_
              refine sp_iload_n X (pc := 38) (x := (nI j)) dX12_body_38 rfl rfl ?_
              refine sp_laload X (pc := 39) (a := (B 15)) rfl hVm.y15 (sp_in j hVm.l15 (by omega) (by decide)) dX12_body_39 ?_
              rw [show (m.aL (B 15) (nI j).toNatClampNeg) = (m.aL (B 15) j) from (congrArg _ (nI_clamp (n := j) (by omega)))]
              rw [show (m.aL (B 15) j) = (Z.S j) from ((congrFun hVm.rA j).trans b1)]
              refine sp_goto X (pc := 40) (tgt := 50) dX12_body_40 (by decide) ?_
              refine sp_lreturn X (pc := 50) dX12_body_50 ⟨_, rfl, ?_⟩
              first
                | exact ⟨Or.inr ⟨j, hjb, rfl, Or.inl ⟨hb31, rfl⟩⟩, rfl⟩
                | exact ⟨Or.inr ⟨j, hjb, rfl, Or.inr (Or.inl ⟨by
                    rcases hy3 with q | q | q
                    · exact absurd q hb31
                    · exact q
                    · rw [q] at hb27; exact absurd (by decide) hb27, rfl⟩)⟩, rfl⟩
        · have hno : ¬ (∃ i, i < Z.b ∧ nI j = nI i) ∨ ¬ (y = 0 ∨ y = 1 ∨ y = 2) := Or.inr (by rintro (q | q | q) <;> (rw [q] at hb18; exact absurd (by decide) hb18))
          refine sp_ldc2 X (pc := 21) (v := (-7)) kl_Mo_236 dX12_body_21 ?_
          refine sp_lreturn X (pc := 24) dX12_body_24 ⟨_, rfl, ?_⟩
          exact ⟨Or.inl ⟨hno, rfl⟩, rfl⟩
set_option maxRecDepth 20000 in
theorem c_Mo_inside (l : Launch) (G : sp_G) (m : sp_M) {B : Nat → Nat} {m0 : sp_M} {D : Nat → Int32} {R : Int32} {l0 l1 : Int64} {d n b p t e ws : Nat} {vq vm vl : Int32} {vs : Int64} {vA vE : Nat → Int64} (hVm : sp_V B m0 m D R l0 l1 d n b p t e n ws vq vm vl vs vA vE)  {T : pu_N} {nb0 nt0 : Nat} (hMN : sp_mN m B n n T) (hW : pu_W n nb0 nt0 T) : sp_C l G M_Mo_inside 0 0 [.ref (B 0)] m (sp_oI fun v m' => v = 1 ∧ m' = m) := by
  refine sp_enter (lv0 := [(0, false, va_rf (some (B 0)))]) "SafePathsModel" false rfl (by decide) (fun h => by cases h) (Nat.le_of_ble_eq_true rfl) rfl ?_
  intro w X
  have bd := hVm.hd
  have bn := hVm.hn
  have bb := hVm.hb
  have bp := hVm.hp
  have bt := hVm.ht
  have be := hVm.he
  have bw := hVm.hw
  have bL := hVm.hL
  have h4 := hW.1.1
  obtain ⟨o1, o2, o3⟩ := hW.2.2.2.2.2.2.1
  obtain ⟨⟨k0, k1, k2, k3⟩, ⟨g0, g1, g2, g3⟩, ⟨s0, s2⟩, h3, hin⟩ := hW.2.2.2.2.2.2.2
  have r0 := hMN.1 0 (by omega)
  have r1 := hMN.1 1 (by omega)
  have r2 := hMN.1 2 (by omega)
  have r3 := hMN.1 3 (by omega)
  have v2 : m.aI (B 8) 2 = 0 := r2.2.2.2.2.1.trans (by rw [o2]; rfl)
  have v3 : m.aI (B 5) 2 = 0 := r2.2.1.trans s2
  have v4 : m.aI (B 5) 0 = 0 := r0.2.1.trans s0
  have v5 : m.aI (B 7) 3 = 0 := r3.2.2.2.1.trans g3
  have v6 : m.aI (B 8) 3 = 2 := r3.2.2.2.2.1.trans (by rw [o3]; rfl)
  have v7 : m.aI (B 9) 3 = 0 := (hMN.2.2 3 (by omega) (by rw [k3]; decide)).trans (by rw [h3]; rfl)
  have v8 : m.aI (B 8) 1 = 0 := r1.2.2.2.2.1.trans (by rw [o1]; rfl)
  refine sp_aload_n X (pc := 0) (r := some (B 0)) dX12_inside_0 rfl rfl ?_
  refine sp_getfield X (pc := 1) (c := 13) (i := 8) (t := 2) (a := (B 0)) (v := va_rf (some (B 8))) rfl hVm.r.o (by decide) rfl (congrArg va_rf hVm.f8) fl_Mo_26 dX12_inside_1 ?_
  refine sp_iconst X (pc := 4) (v := 2) dX12_inside_4 (by decide) ?_
  refine sp_iaload X (pc := 5) (a := (B 8)) rfl (Or.inl hVm.y8) (sp_in 2 hVm.l8 (by omega) (by decide)) dX12_inside_5 ?_
  rw [show (m.aI (B 8) (Int32.toNatClampNeg 2)) = (m.aI (B 8) 2) from (congrArg _ (nI_clamp (n := 2) (by omega)))]
  refine sp_if_ne X (pc := 6) (tgt := 68) dX12_inside_6 (by decide) (fun hb6 => ?_) (fun hb6 => ?_)
  · exact absurd v2 hb6 --stop
  · refine sp_aload_n X (pc := 9) (r := some (B 0)) dX12_inside_9 rfl rfl ?_
    refine sp_getfield X (pc := 10) (c := 13) (i := 5) (t := 2) (a := (B 0)) (v := va_rf (some (B 5))) rfl hVm.r.o (by decide) rfl (congrArg va_rf hVm.f5) fl_Mo_16 dX12_inside_10 ?_
    refine sp_iconst X (pc := 13) (v := 2) dX12_inside_13 (by decide) ?_
    refine sp_baload X (pc := 14) (a := (B 5)) rfl hVm.y5 (sp_in 2 hVm.l5 (by omega) (by decide)) dX12_inside_14 ?_
    rw [show (m.aI (B 5) (Int32.toNatClampNeg 2)) = (m.aI (B 5) 2) from (congrArg _ (nI_clamp (n := 2) (by omega)))]
    refine sp_if_ne X (pc := 15) (tgt := 68) dX12_inside_15 (by decide) (fun hb15 => ?_) (fun hb15 => ?_)
    · exact absurd v3 hb15 --stop
    · refine sp_aload_n X (pc := 18) (r := some (B 0)) dX12_inside_18 rfl rfl ?_
      refine sp_getfield X (pc := 19) (c := 13) (i := 5) (t := 2) (a := (B 0)) (v := va_rf (some (B 5))) rfl hVm.r.o (by decide) rfl (congrArg va_rf hVm.f5) fl_Mo_16 dX12_inside_19 ?_
      refine sp_iconst X (pc := 22) (v := 0) dX12_inside_22 (by decide) ?_
      refine sp_baload X (pc := 23) (a := (B 5)) rfl hVm.y5 (sp_in 0 hVm.l5 (by omega) (by decide)) dX12_inside_23 ?_
      rw [show (m.aI (B 5) (Int32.toNatClampNeg 0)) = (m.aI (B 5) 0) from (congrArg _ (nI_clamp (n := 0) (by omega)))]
      refine sp_if_ne X (pc := 24) (tgt := 68) dX12_inside_24 (by decide) (fun hb24 => ?_) (fun hb24 => ?_)
      · exact absurd v4 hb24 --stop
      · refine sp_aload_n X (pc := 27) (r := some (B 0)) dX12_inside_27 rfl rfl ?_
        refine sp_getfield X (pc := 28) (c := 13) (i := 7) (t := 2) (a := (B 0)) (v := va_rf (some (B 7))) rfl hVm.r.o (by decide) rfl (congrArg va_rf hVm.f7) fl_Mo_23 dX12_inside_28 ?_
        refine sp_iconst X (pc := 31) (v := 3) dX12_inside_31 (by decide) ?_
        refine sp_baload X (pc := 32) (a := (B 7)) rfl hVm.y7 (sp_in 3 hVm.l7 (by omega) (by decide)) dX12_inside_32 ?_
        rw [show (m.aI (B 7) (Int32.toNatClampNeg 3)) = (m.aI (B 7) 3) from (congrArg _ (nI_clamp (n := 3) (by omega)))]
        refine sp_if_ne X (pc := 33) (tgt := 68) dX12_inside_33 (by decide) (fun hb33 => ?_) (fun hb33 => ?_)
        · exact absurd v5 hb33 --stop
        · refine sp_aload_n X (pc := 36) (r := some (B 0)) dX12_inside_36 rfl rfl ?_
          refine sp_getfield X (pc := 37) (c := 13) (i := 8) (t := 2) (a := (B 0)) (v := va_rf (some (B 8))) rfl hVm.r.o (by decide) rfl (congrArg va_rf hVm.f8) fl_Mo_26 dX12_inside_37 ?_
          refine sp_iconst X (pc := 40) (v := 3) dX12_inside_40 (by decide) ?_
          refine sp_iaload X (pc := 41) (a := (B 8)) rfl (Or.inl hVm.y8) (sp_in 3 hVm.l8 (by omega) (by decide)) dX12_inside_41 ?_
          rw [show (m.aI (B 8) (Int32.toNatClampNeg 3)) = (m.aI (B 8) 3) from (congrArg _ (nI_clamp (n := 3) (by omega)))]
          refine sp_iconst X (pc := 42) (v := 2) dX12_inside_42 (by decide) ?_
          refine sp_icmp_ne X (pc := 43) (tgt := 68) dX12_inside_43 (by decide) (fun hb43 => ?_) (fun hb43 => ?_)
          · exact absurd v6 hb43 --stop
          · refine sp_aload_n X (pc := 46) (r := some (B 0)) dX12_inside_46 rfl rfl ?_
            refine sp_getfield X (pc := 47) (c := 13) (i := 9) (t := 2) (a := (B 0)) (v := va_rf (some (B 9))) rfl hVm.r.o (by decide) rfl (congrArg va_rf hVm.f9) fl_Mo_29 dX12_inside_47 ?_
            refine sp_iconst X (pc := 50) (v := 3) dX12_inside_50 (by decide) ?_
            refine sp_iaload X (pc := 51) (a := (B 9)) rfl (Or.inl hVm.y9) (sp_in 3 hVm.l9 (by omega) (by decide)) dX12_inside_51 ?_
            rw [show (m.aI (B 9) (Int32.toNatClampNeg 3)) = (m.aI (B 9) 3) from (congrArg _ (nI_clamp (n := 3) (by omega)))]
            refine sp_if_ne X (pc := 52) (tgt := 68) dX12_inside_52 (by decide) (fun hb52 => ?_) (fun hb52 => ?_)
            · exact absurd v7 hb52 --stop
            · refine sp_aload_n X (pc := 55) (r := some (B 0)) dX12_inside_55 rfl rfl ?_
              refine sp_getfield X (pc := 56) (c := 13) (i := 8) (t := 2) (a := (B 0)) (v := va_rf (some (B 8))) rfl hVm.r.o (by decide) rfl (congrArg va_rf hVm.f8) fl_Mo_26 dX12_inside_56 ?_
              refine sp_iconst X (pc := 59) (v := 1) dX12_inside_59 (by decide) ?_
              refine sp_iaload X (pc := 60) (a := (B 8)) rfl (Or.inl hVm.y8) (sp_in 1 hVm.l8 (by omega) (by decide)) dX12_inside_60 ?_
              rw [show (m.aI (B 8) (Int32.toNatClampNeg 1)) = (m.aI (B 8) 1) from (congrArg _ (nI_clamp (n := 1) (by omega)))]
              refine sp_if_ne X (pc := 61) (tgt := 68) dX12_inside_61 (by decide) (fun hb61 => ?_) (fun hb61 => ?_)
              · exact absurd v8 hb61 --stop
              · refine sp_iconst X (pc := 64) (v := 1) dX12_inside_64 (by decide) ?_
                refine sp_goto X (pc := 65) (tgt := 69) dX12_inside_65 (by decide) ?_
                refine sp_istore_n X (pc := 69) (lv' := [(1, false, .int 1), (0, false, va_rf (some (B 0)))]) dX12_inside_69 rfl (by decide) rfl ?_
                refine sp_iconst X (pc := 70) (v := 4) dX12_inside_70 (by decide) ?_
                refine sp_istore_n X (pc := 71) (lv' := [(2, false, .int 4), (1, false, .int 1), (0, false, va_rf (some (B 0)))]) dX12_inside_71 rfl (by decide) rfl ?_
                have loop72 : ∀ (dz : Nat) (k : Nat), 4 ≤ k → k ≤ 201 → n - k = dz → w 0 0 m 72 [(0, false, va_rf (some (B 0))), (1, false, .int (1 : Int32)), (2, false, .int (nI k))] [] := by
                  intro dz
                  induction dz using Nat.strongRecOn with
                  | ind dz ih =>
                    intro k hk4 hk0 hdz
                    refine sp_iload_n X (pc := 72) (x := nI k) dX12_inside_72 rfl rfl ?_
                    refine sp_aload_n X (pc := 73) (r := some (B 0)) dX12_inside_73 rfl rfl ?_
                    refine sp_getfield X (pc := 74) (c := 13) (i := 3) (t := 0) (a := (B 0)) (v := .int (nI n)) rfl hVm.r.o (by decide) rfl (congrArg Value.int hVm.cn) fl_Mo_115 dX12_inside_74 ?_
                    refine sp_icmp_ge X (pc := 77) (tgt := 111) dX12_inside_77 (by decide) (fun hb77 => ?_) (fun hb77 => ?_)
                    · refine sp_iload_n X (pc := 111) (x := (1 : Int32)) dX12_inside_111 rfl rfl ?_
                      refine sp_ireturn X (pc := 112) dX12_inside_112 rfl ⟨_, rfl, ?_⟩
                      exact ⟨rfl, rfl⟩
                    · have hk : k < n := sp_nlt hb77 (by omega)
                      refine sp_iload_n X (pc := 80) (x := (1 : Int32)) dX12_inside_80 rfl rfl ?_
                      refine sp_aload_n X (pc := 81) (r := some (B 0)) dX12_inside_81 rfl rfl ?_
                      refine sp_getfield X (pc := 82) (c := 13) (i := 7) (t := 2) (a := (B 0)) (v := va_rf (some (B 7))) rfl hVm.r.o (by decide) rfl (congrArg va_rf hVm.f7) fl_Mo_23 dX12_inside_82 ?_
                      refine sp_iload_n X (pc := 85) (x := nI k) dX12_inside_85 rfl rfl ?_
                      refine sp_baload X (pc := 86) (a := (B 7)) rfl hVm.y7 (sp_in k hVm.l7 (by omega) (by decide)) dX12_inside_86 ?_
                      rw [show (m.aI (B 7) (nI k).toNatClampNeg) = (m.aI (B 7) k) from (congrArg _ (nI_clamp (n := k) (by omega)))]
                      refine sp_if_ne X (pc := 87) (tgt := 98) dX12_inside_87 (by decide) (fun hb87 => ?_) (fun hb87 => ?_)
                      · refine sp_iconst X (pc := 98) (v := 1) dX12_inside_98 (by decide) ?_
                        refine sp_goto X (pc := 99) (tgt := 103) dX12_inside_99 (by decide) ?_
                        refine sp_iand X (pc := 103) dX12_inside_103 ?_
                        rw [show ((1 : Int32) &&& 1) = 1 from (by decide)]
                        refine sp_istore_n X (pc := 104) (lv' := [(1, false, .int 1), (0, false, va_rf (some (B 0))), (2, false, .int (nI k))]) dX12_inside_104 rfl (by decide) rfl ?_
                        refine sp_iinc X (pc := 105) (v := (nI (k + 1))) (lv' := [(2, false, .int (nI (k + 1))), (1, false, .int 1), (0, false, va_rf (some (B 0)))]) dX12_inside_105 rfl ((sp_i1 k)) (by decide) rfl ?_
                        refine sp_goto X (pc := 108) (tgt := 72) dX12_inside_108 (by decide) ?_
                        refine sp_pick X [2, 1, 0] (lv' := [(0, false, va_rf (some (B 0))), (1, false, .int 1), (2, false, .int (nI (k + 1)))]) rfl ?_
                        exact ih _ (by omega) (k + 1) (by omega) (by omega) rfl
                      · refine sp_aload_n X (pc := 90) (r := some (B 0)) dX12_inside_90 rfl rfl ?_
                        refine sp_iload_n X (pc := 91) (x := nI k) dX12_inside_91 rfl rfl ?_
                        refine sp_callV X (pc := 92) (mc := 0) (ms := 0) (b := (B 0)) (c := 13) (r := some (B 0)) (As := [.int (nI k)]) (rest := [.int (1 : Int32)]) (c_Mo_isInside l G _ hVm hMN hW hk) ok_Mo_isInside rfl hVm.r.o (by decide) rfl lk_Mo_165 rfl rfl (by simp [sp_cat_rf, sp_cat_i, sp_cat_l]) (Nat.le_of_ble_eq_true rfl) (Nat.le_of_ble_eq_true rfl) (Nat.zero_le _) (Nat.zero_le _) dX12_inside_92 (sp_kI fun v92 m92 hp92 => ?_)
                        obtain ⟨hp92, hp92m⟩ := hp92; replace hp92m := (hp92m).symm; subst hp92m
                        refine sp_if_eq X (pc := 95) (tgt := 102) dX12_inside_95 (by decide) (fun hb95 => ?_) (fun hb95 => ?_)
                        · exact absurd (hin k hk4 hk) (hp92.eq hb95) --stop
                        · refine sp_iconst X (pc := 98) (v := 1) dX12_inside_98 (by decide) ?_
                          refine sp_goto X (pc := 99) (tgt := 103) dX12_inside_99 (by decide) ?_
                          refine sp_iand X (pc := 103) dX12_inside_103 ?_
                          rw [show ((1 : Int32) &&& 1) = 1 from (by decide)]
                          refine sp_istore_n X (pc := 104) (lv' := [(1, false, .int 1), (0, false, va_rf (some (B 0))), (2, false, .int (nI k))]) dX12_inside_104 rfl (by decide) rfl ?_
                          refine sp_iinc X (pc := 105) (v := (nI (k + 1))) (lv' := [(2, false, .int (nI (k + 1))), (1, false, .int 1), (0, false, va_rf (some (B 0)))]) dX12_inside_105 rfl ((sp_i1 k)) (by decide) rfl ?_
                          refine sp_goto X (pc := 108) (tgt := 72) dX12_inside_108 (by decide) ?_
                          refine sp_pick X [2, 1, 0] (lv' := [(0, false, va_rf (some (B 0))), (1, false, .int 1), (2, false, .int (nI (k + 1)))]) rfl ?_
                          exact ih _ (by omega) (k + 1) (by omega) (by omega) rfl
                refine sp_pick X [2, 1, 0] (lv' := [(0, false, va_rf (some (B 0))), (1, false, .int 1), (2, false, .int 4)]) rfl ?_
                exact loop72 _ 4 (by omega) (by omega) rfl
set_option maxRecDepth 20000 in
theorem c_Mo_note (l : Launch) (G : sp_G) (m : sp_M) {B : Nat → Nat} {m0 : sp_M} {D : Nat → Int32} {R : Int32} {l0 l1 : Int64} {d n b p t e L ws : Nat} {vq vm vl : Int32} {vs : Int64} {vA vE : Nat → Int64} (hVm : sp_V B m0 m D R l0 l1 d n b p t e L ws vq vm vl vs vA vE) {j : Nat} {x y : Int32} (hj : j < n) : sp_C l G M_Mo_note 0 0 [.ref (B 0), .int (nI j), .int x, .int y] m (sp_oV fun m' => (y = 0 ∧ m' = m) ∨ (¬ y = 0 ∧ sp_V B m0 m' D R l0 l1 d n b p t e L ws (vq + 1) vm vl vs vA vE ∧ (∀ a, a ≠ B 12 → m'.aI a = m.aI a) ∧ ∀ i, m'.aI (B 12) i = if i = j then x else m.aI (B 12) i)) := by
  refine sp_enter (lv0 := [(0, false, va_rf (some (B 0))), (1, false, .int (nI j)), (2, false, .int x), (3, false, .int y)]) "SafePathsModel" false rfl (by decide) (fun h => by cases h) (Nat.le_of_ble_eq_true rfl) rfl ?_
  intro w X
  have bd := hVm.hd
  have bn := hVm.hn
  have bb := hVm.hb
  have bp := hVm.hp
  have bt := hVm.ht
  have be := hVm.he
  have bw := hVm.hw
  have bL := hVm.hL
  refine sp_iload_n X (pc := 0) (x := y) dX12_note_0 rfl rfl ?_
  refine sp_if_eq X (pc := 1) (tgt := 21) dX12_note_1 (by decide) (fun hb1 => ?_) (fun hb1 => ?_)
  · refine sp_return X (pc := 21) dX12_note_21 ⟨rfl, ?_⟩
    first
      | exact Or.inl ⟨hb1, rfl⟩
      | exact Or.inr ⟨hb1, hVm18, by rw [a18]; exact a10, by rw [a18]; exact b10⟩
  · refine sp_aload_n X (pc := 4) (r := some (B 0)) dX12_note_4 rfl rfl ?_
    refine sp_getfield X (pc := 5) (c := 13) (i := 12) (t := 2) (a := (B 0)) (v := va_rf (some (B 12))) rfl hVm.r.o (by decide) rfl (congrArg va_rf hVm.f12) fl_Mo_38 dX12_note_5 ?_
    refine sp_iload_n X (pc := 8) (x := nI j) dX12_note_8 rfl rfl ?_
    refine sp_iload_n X (pc := 9) (x := x) dX12_note_9 rfl rfl ?_
    refine sp_iastore X (pc := 10) (a := (B 12)) rfl hVm.y12 (sp_in j hVm.l12 (by omega) (by decide))  dX12_note_10 ?_
    rw [show (nI j).toNatClampNeg = j from (nI_clamp (n := j) (by omega))]
    obtain ⟨m10, hm10⟩ : ∃ xm, xm = (m.sI (B 12) j x) := ⟨_, rfl⟩
    rw [← hm10]
    have hVm10 : sp_V B m0 m10 D R l0 l1 d n b p t e L ws vq vm vl vs vA vE := by
      rw [hm10]
      exact hVm.sI 12 j _ (by decide) (by decide) (Nat.zero_le _)
    have a10 : ∀ a, a ≠ B 12 → m10.aI a = m.aI a := by
      rw [hm10]
      intro a ha
      funext i
      rw [sp_sI_aI, if_neg (fun z => ha z.1)]
    have b10 : ∀ i, m10.aI (B 12) i = if i = j then x else m.aI (B 12) i := by
      rw [hm10]
      intro i
      rw [sp_sI_aI]
      by_cases q : i = j
      · rw [if_pos ⟨rfl, q⟩, if_pos q]
      · rw [if_neg (fun z => q z.2), if_neg q]
    clear hm10
    refine sp_aload_n X (pc := 11) (r := some (B 0)) dX12_note_11 rfl rfl ?_
    refine sp_dup X (pc := 12) dX12_note_12 (sp_cat_rf _) ?_
    refine sp_getfield X (pc := 13) (c := 13) (i := 13) (t := 0) (a := (B 0)) (v := .int vq) rfl hVm10.r.o (by decide) rfl (congrArg Value.int hVm10.cq) fl_Mo_227 dX12_note_13 ?_
    refine sp_iconst X (pc := 16) (v := 1) dX12_note_16 (by decide) ?_
    refine sp_iadd X (pc := 17) dX12_note_17 ?_
    refine sp_putI X (pc := 18) (c := 13) (i := 13) (q := 845) (a := (B 0)) rfl hVm10.r.o (by decide) rfl rfl (Or.inl rfl) ⟨rfl, rfl⟩ fl_Mo_227 dX12_note_18 ?_
    obtain ⟨m18, hm18⟩ : ∃ xm, xm = (m10.pI 845 (B 0) (vq + 1)) := ⟨_, rfl⟩
    rw [← hm18]
    have hVm18 : sp_V B m0 m18 D R l0 l1 d n b p t e L ws (vq + 1) vm vl vs vA vE := by
      rw [hm18]
      exact hVm10.xq (vq + 1)
    have a18 : m18.aI = m10.aI := by
      rw [hm18]
      rfl
    clear hm18
    refine sp_return X (pc := 21) dX12_note_21 ⟨rfl, ?_⟩
    first
      | exact Or.inl ⟨hb1, rfl⟩
      | exact Or.inr ⟨hb1, hVm18, by rw [a18]; exact a10, by rw [a18]; exact b10⟩
set_option maxRecDepth 20000 in
theorem c_Mo_word3 (l : Launch) (G : sp_G) (m : sp_M) {B : Nat → Nat} {m0 : sp_M} {D : Nat → Int32} {R : Int32} {l0 l1 : Int64} {d n b p t e L ws : Nat} {vq vm vl : Int32} {vs : Int64} {vA vE : Nat → Int64} (hVm : sp_V B m0 m D R l0 l1 d n b p t e L ws vq vm vl vs vA vE) {x y z : Int32} : sp_C l G M_Mo_word3 0 0 [.ref (B 0), .int x, .int y, .int z] m (sp_oV fun m' => sp_V B m0 m' D R l0 l1 d n b p t e L 3 vq vm vl vs vA vE ∧ sp_wd B m m' ∧ m'.aI (B 34) 0 = x ∧ m'.aI (B 34) 1 = y ∧ m'.aI (B 34) 2 = z) := by
  refine sp_enter (lv0 := [(0, false, va_rf (some (B 0))), (1, false, .int x), (2, false, .int y), (3, false, .int z)]) "SafePathsModel" false rfl (by decide) (fun h => by cases h) (Nat.le_of_ble_eq_true rfl) rfl ?_
  intro w X
  have bd := hVm.hd
  have bn := hVm.hn
  have bb := hVm.hb
  have bp := hVm.hp
  have bt := hVm.ht
  have be := hVm.he
  have bw := hVm.hw
  have bL := hVm.hL
  refine sp_aload_n X (pc := 0) (r := some (B 0)) dX12_word3_0 rfl rfl ?_
  refine sp_getfield X (pc := 1) (c := 13) (i := 34) (t := 2) (a := (B 0)) (v := va_rf (some (B 34))) rfl hVm.r.o (by decide) rfl (congrArg va_rf hVm.f34) fl_Mo_86 dX12_word3_1 ?_
  refine sp_iconst X (pc := 4) (v := 0) dX12_word3_4 (by decide) ?_
  refine sp_iload_n X (pc := 5) (x := x) dX12_word3_5 rfl rfl ?_
  refine sp_iastore X (pc := 6) (a := (B 34)) rfl hVm.y34 (sp_in 0 hVm.l34 (by omega) (by decide))  dX12_word3_6 ?_
  rw [show (Int32.toNatClampNeg 0) = 0 from (nI_clamp (n := 0) (by omega))]
  obtain ⟨m6, hm6⟩ : ∃ xm, xm = (m.sI (B 34) 0 x) := ⟨_, rfl⟩
  rw [← hm6]
  have hVm6 : sp_V B m0 m6 D R l0 l1 d n b p t e L ws vq vm vl vs vA vE := by
    rw [hm6]
    exact hVm.sI 34 0 _ (by decide) (by decide) (Nat.zero_le _)
  have hwa : sp_wd B m m6 := by
    rw [hm6]
    exact (sp_wd.refl B m).sI _ _
  have p0 : m6.aI (B 34) 0 = x := by
    rw [hm6]
    rw [sp_sI_aI, if_pos ⟨rfl, rfl⟩]
  clear hm6
  refine sp_aload_n X (pc := 7) (r := some (B 0)) dX12_word3_7 rfl rfl ?_
  refine sp_getfield X (pc := 8) (c := 13) (i := 34) (t := 2) (a := (B 0)) (v := va_rf (some (B 34))) rfl hVm6.r.o (by decide) rfl (congrArg va_rf hVm6.f34) fl_Mo_86 dX12_word3_8 ?_
  refine sp_iconst X (pc := 11) (v := 1) dX12_word3_11 (by decide) ?_
  refine sp_iload_n X (pc := 12) (x := y) dX12_word3_12 rfl rfl ?_
  refine sp_iastore X (pc := 13) (a := (B 34)) rfl hVm6.y34 (sp_in 1 hVm6.l34 (by omega) (by decide))  dX12_word3_13 ?_
  rw [show (Int32.toNatClampNeg 1) = 1 from (nI_clamp (n := 1) (by omega))]
  obtain ⟨m13, hm13⟩ : ∃ xm, xm = (m6.sI (B 34) 1 y) := ⟨_, rfl⟩
  rw [← hm13]
  have hVm13 : sp_V B m0 m13 D R l0 l1 d n b p t e L ws vq vm vl vs vA vE := by
    rw [hm13]
    exact hVm6.sI 34 1 _ (by decide) (by decide) (Nat.zero_le _)
  have hwb : sp_wd B m m13 := by
    rw [hm13]
    exact hwa.sI _ _
  have q0 : m13.aI (B 34) 0 = x := by
    rw [hm13]
    rw [sp_sI_aI, if_neg (by omega)]; exact p0
  have q1 : m13.aI (B 34) 1 = y := by
    rw [hm13]
    rw [sp_sI_aI, if_pos ⟨rfl, rfl⟩]
  clear hm13
  refine sp_aload_n X (pc := 14) (r := some (B 0)) dX12_word3_14 rfl rfl ?_
  refine sp_getfield X (pc := 15) (c := 13) (i := 34) (t := 2) (a := (B 0)) (v := va_rf (some (B 34))) rfl hVm13.r.o (by decide) rfl (congrArg va_rf hVm13.f34) fl_Mo_86 dX12_word3_15 ?_
  refine sp_iconst X (pc := 18) (v := 2) dX12_word3_18 (by decide) ?_
  refine sp_iload_n X (pc := 19) (x := z) dX12_word3_19 rfl rfl ?_
  refine sp_iastore X (pc := 20) (a := (B 34)) rfl hVm13.y34 (sp_in 2 hVm13.l34 (by omega) (by decide))  dX12_word3_20 ?_
  rw [show (Int32.toNatClampNeg 2) = 2 from (nI_clamp (n := 2) (by omega))]
  obtain ⟨m20, hm20⟩ : ∃ xm, xm = (m13.sI (B 34) 2 z) := ⟨_, rfl⟩
  rw [← hm20]
  have hVm20 : sp_V B m0 m20 D R l0 l1 d n b p t e L ws vq vm vl vs vA vE := by
    rw [hm20]
    exact hVm13.sI 34 2 _ (by decide) (by decide) (Nat.zero_le _)
  have hwc : sp_wd B m m20 := by
    rw [hm20]
    exact hwb.sI _ _
  have r0 : m20.aI (B 34) 0 = x := by
    rw [hm20]
    rw [sp_sI_aI, if_neg (by omega)]; exact q0
  have r1 : m20.aI (B 34) 1 = y := by
    rw [hm20]
    rw [sp_sI_aI, if_neg (by omega)]; exact q1
  have r2 : m20.aI (B 34) 2 = z := by
    rw [hm20]
    rw [sp_sI_aI, if_pos ⟨rfl, rfl⟩]
  clear hm20
  refine sp_aload_n X (pc := 21) (r := some (B 0)) dX12_word3_21 rfl rfl ?_
  refine sp_iconst X (pc := 22) (v := 3) dX12_word3_22 (by decide) ?_
  refine sp_putI X (pc := 23) (c := 13) (i := 35) (q := 867) (a := (B 0)) rfl hVm20.r.o (by decide) rfl rfl (Or.inl rfl) ⟨rfl, rfl⟩ fl_Mo_107 dX12_word3_23 ?_
  obtain ⟨m23, hm23⟩ : ∃ xm, xm = (m20.pI 867 (B 0) 3) := ⟨_, rfl⟩
  rw [← hm23]
  have hVm23 : sp_V B m0 m23 D R l0 l1 d n b p t e L 3 vq vm vl vs vA vE := by
    rw [hm23]
    exact hVm20.pw 3 (by omega)
  have hwd : sp_wd B m m23 := by
    rw [hm23]
    exact hwc.pI _
  have e23 : m23.aI = m20.aI := by
    rw [hm23]
    rfl
  clear hm23
  refine sp_return X (pc := 26) dX12_word3_26 ⟨rfl, ?_⟩
  exact ⟨hVm23, hwd, by rw [e23]; exact r0, by rw [e23]; exact r1, by rw [e23]; exact r2⟩
set_option maxRecDepth 20000 in
theorem c_Mo_partWord (l : Launch) (G : sp_G) (m : sp_M) {B : Nat → Nat} {m0 : sp_M} {D : Nat → Int32} {R : Int32} {l0 l1 : Int64} {d n b p t e L ws : Nat} {vq vm vl : Int32} {vs : Int64} {vA vE : Nat → Int64} (hVm : sp_V B m0 m D R l0 l1 d n b p t e L ws vq vm vl vs vA vE)  {PT : Nat → List (List Int32)} (hP : sp_mP m B p PT) (hPl : pu_P p PT) {j k : Nat} (hj : j < p) (hk : k < (PT j).length) : sp_C l G M_Mo_partWord 0 0 [.ref (B 0), .int (nI j), .int (nI k)] m (sp_oV fun m' => sp_V B m0 m' D R l0 l1 d n b p t e L (((PT j).getD k []).length) vq vm vl vs vA vE ∧ sp_wd B m m' ∧ sp_wu m' B ((PT j).getD k []).length = ((PT j).getD k [])) := by
  refine sp_enter (lv0 := [(0, false, va_rf (some (B 0))), (1, false, .int (nI j)), (2, false, .int (nI k))]) "SafePathsModel" false rfl (by decide) (fun h => by cases h) (Nat.le_of_ble_eq_true rfl) rfl ?_
  intro w X
  have bd := hVm.hd
  have bn := hVm.hn
  have bb := hVm.hb
  have bp := hVm.hp
  have bt := hVm.ht
  have be := hVm.he
  have bw := hVm.hw
  have bL := hVm.hL
  have lj := hPl j hj
  have zk := (hP j hj).2 k hk
  have lk := lj.2.2 k hk
  obtain ⟨q, hq⟩ : ∃ q, q = ((PT j).getD k []).length := ⟨_, rfl⟩
  rw [← hq] at lk
  refine sp_aload_n X (pc := 0) (r := some (B 0)) dX12_partWord_0 rfl rfl ?_
  refine sp_aload_n X (pc := 1) (r := some (B 0)) dX12_partWord_1 rfl rfl ?_
  refine sp_getfield X (pc := 2) (c := 13) (i := 19) (t := 2) (a := (B 0)) (v := va_rf (some (B 19))) rfl hVm.r.o (by decide) rfl (congrArg va_rf hVm.f19) fl_Mo_51 dX12_partWord_2 ?_
  refine sp_bipush X (pc := 5) (v := 8) dX12_partWord_5 (by decide) ?_
  refine sp_iload_n X (pc := 7) (x := nI j) dX12_partWord_7 rfl rfl ?_
  refine sp_imul X (pc := 8) dX12_partWord_8 ?_
  rw [show (8 * (nI j)) = (nI (8 * j)) from (sp_mul 8 j)]
  refine sp_iload_n X (pc := 9) (x := nI k) dX12_partWord_9 rfl rfl ?_
  refine sp_iadd X (pc := 10) dX12_partWord_10 ?_
  rw [show ((nI (8 * j)) + (nI k)) = (nI ((8 * j) + k)) from (nI_add (8 * j) k)]
  refine sp_iaload X (pc := 11) (a := (B 19)) rfl (Or.inl hVm.y19) (sp_in ((8 * j) + k) hVm.l19 (by omega) (by decide)) dX12_partWord_11 ?_
  rw [show (m.aI (B 19) (nI ((8 * j) + k)).toNatClampNeg) = (m.aI (B 19) ((8 * j) + k)) from (congrArg _ (nI_clamp (n := ((8 * j) + k)) (by omega)))]
  rw [show (m.aI (B 19) ((8 * j) + k)) = (nI q) from (by rw [hq]; exact zk.1)]
  refine sp_putI X (pc := 12) (c := 13) (i := 35) (q := 867) (a := (B 0)) rfl hVm.r.o (by decide) rfl rfl (Or.inl rfl) ⟨rfl, rfl⟩ fl_Mo_107 dX12_partWord_12 ?_
  obtain ⟨m12, hm12⟩ : ∃ xm, xm = (m.pI 867 (B 0) (nI q)) := ⟨_, rfl⟩
  rw [← hm12]
  have hVm12 : sp_V B m0 m12 D R l0 l1 d n b p t e L q vq vm vl vs vA vE := by
    rw [hm12]
    exact hVm.pw q (by omega)
  have hwd : sp_wd B m m12 := by
    rw [hm12]
    exact (sp_wd.refl B m).pI _
  clear hm12
  refine sp_iconst X (pc := 15) (v := 0) dX12_partWord_15 (by decide) ?_
  refine sp_istore_n X (pc := 16) (lv' := [(3, false, .int 0), (0, false, va_rf (some (B 0))), (1, false, .int (nI j)), (2, false, .int (nI k))]) dX12_partWord_16 rfl (by decide) rfl ?_
  have loop17 : ∀ (dz : Nat) (i : Nat) (m1 : sp_M), sp_V B m0 m1 D R l0 l1 d n b p t e L q vq vm vl vs vA vE → sp_wd B m m1 → i ≤ 17 → (∀ z, z < i → m1.aI (B 34) z = ((PT j).getD k []).getD z 0) → q - i = dz → w 0 0 m1 17 [(0, false, va_rf (some (B 0))), (1, false, .int (nI j)), (2, false, .int (nI k)), (3, false, .int (nI i))] [] := by
    intro dz
    induction dz using Nat.strongRecOn with
    | ind dz ih =>
      intro i m1 hVm1 hwd1 hi0 c1 hdz
      refine sp_iload_n X (pc := 17) (x := nI i) dX12_partWord_17 rfl rfl ?_
      refine sp_aload_n X (pc := 18) (r := some (B 0)) dX12_partWord_18 rfl rfl ?_
      refine sp_getfield X (pc := 19) (c := 13) (i := 35) (t := 0) (a := (B 0)) (v := .int (nI q)) rfl hVm1.r.o (by decide) rfl (congrArg Value.int hVm1.cw) fl_Mo_107 dX12_partWord_19 ?_
      refine sp_icmp_ge X (pc := 22) (tgt := 53) dX12_partWord_22 (by decide) (fun hb22 => ?_) (fun hb22 => ?_)
      · have hi : q ≤ i := sp_nge hb22 (by omega) (by omega)
        refine sp_return X (pc := 53) dX12_partWord_53 ⟨rfl, ?_⟩
        rw [← hq]
        exact ⟨hVm1, hwd1, sp_wu_eq hq.symm (fun z hz => c1 z (by omega))⟩
      · have hi : i < q := sp_nlt hb22 (by omega)
        refine sp_aload_n X (pc := 25) (r := some (B 0)) dX12_partWord_25 rfl rfl ?_
        refine sp_getfield X (pc := 26) (c := 13) (i := 34) (t := 2) (a := (B 0)) (v := va_rf (some (B 34))) rfl hVm1.r.o (by decide) rfl (congrArg va_rf hVm1.f34) fl_Mo_86 dX12_partWord_26 ?_
        refine sp_iload_n X (pc := 29) (x := nI i) dX12_partWord_29 rfl rfl ?_
        refine sp_aload_n X (pc := 30) (r := some (B 0)) dX12_partWord_30 rfl rfl ?_
        refine sp_getfield X (pc := 31) (c := 13) (i := 20) (t := 2) (a := (B 0)) (v := va_rf (some (B 20))) rfl hVm1.r.o (by decide) rfl (congrArg va_rf hVm1.f20) fl_Mo_54 dX12_partWord_31 ?_
        refine sp_bipush X (pc := 34) (v := 16) dX12_partWord_34 (by decide) ?_
        refine sp_bipush X (pc := 36) (v := 8) dX12_partWord_36 (by decide) ?_
        refine sp_iload_n X (pc := 38) (x := nI j) dX12_partWord_38 rfl rfl ?_
        refine sp_imul X (pc := 39) dX12_partWord_39 ?_
        rw [show (8 * (nI j)) = (nI (8 * j)) from (sp_mul 8 j)]
        refine sp_iload_n X (pc := 40) (x := nI k) dX12_partWord_40 rfl rfl ?_
        refine sp_iadd X (pc := 41) dX12_partWord_41 ?_
        rw [show ((nI (8 * j)) + (nI k)) = (nI ((8 * j) + k)) from (nI_add (8 * j) k)]
        refine sp_imul X (pc := 42) dX12_partWord_42 ?_
        rw [show (16 * (nI ((8 * j) + k))) = (nI (16 * ((8 * j) + k))) from (sp_mul 16 ((8 * j) + k))]
        refine sp_iload_n X (pc := 43) (x := nI i) dX12_partWord_43 rfl rfl ?_
        refine sp_iadd X (pc := 44) dX12_partWord_44 ?_
        rw [show ((nI (16 * ((8 * j) + k))) + (nI i)) = (nI ((16 * ((8 * j) + k)) + i)) from (nI_add (16 * ((8 * j) + k)) i)]
        refine sp_iaload X (pc := 45) (a := (B 20)) rfl (Or.inl hVm1.y20) (sp_in ((16 * ((8 * j) + k)) + i) hVm1.l20 (by omega) (by decide)) dX12_partWord_45 ?_
        rw [show (m1.aI (B 20) (nI ((16 * ((8 * j) + k)) + i)).toNatClampNeg) = (m1.aI (B 20) ((16 * ((8 * j) + k)) + i)) from (congrArg _ (nI_clamp (n := ((16 * ((8 * j) + k)) + i)) (by omega)))]
        rw [show (m1.aI (B 20) ((16 * ((8 * j) + k)) + i)) = (((PT j).getD k []).getD i 0) from ((congrFun (hwd1.2 _ (hVm1.ne 20 34 (by decide) (by decide) (by decide))) _).trans (zk.2 i (by omega)))]
        refine sp_iastore X (pc := 46) (a := (B 34)) rfl hVm1.y34 (sp_in i hVm1.l34 (by omega) (by decide))  dX12_partWord_46 ?_
        rw [show (nI i).toNatClampNeg = i from (nI_clamp (n := i) (by omega))]
        obtain ⟨m46, hm46⟩ : ∃ xm, xm = (m1.sI (B 34) i (((PT j).getD k []).getD i 0)) := ⟨_, rfl⟩
        rw [← hm46]
        have hVm46 : sp_V B m0 m46 D R l0 l1 d n b p t e L q vq vm vl vs vA vE := by
          rw [hm46]
          exact hVm1.sI 34 i _ (by decide) (by decide) (Nat.zero_le _)
        have hwd2 : sp_wd B m m46 := by
          rw [hm46]
          exact hwd1.sI _ _
        have c2 : ∀ z, z < i + 1 → m46.aI (B 34) z = ((PT j).getD k []).getD z 0 := by
          rw [hm46]
          intro z hz
          rw [sp_sI_aI]
          by_cases y : z = i
          · subst y; rw [if_pos ⟨rfl, rfl⟩]
          · rw [if_neg (by omega)]; exact c1 z (by omega)
        clear hm46
        refine sp_iinc X (pc := 47) (v := (nI (i + 1))) (lv' := [(3, false, .int (nI (i + 1))), (0, false, va_rf (some (B 0))), (1, false, .int (nI j)), (2, false, .int (nI k))]) dX12_partWord_47 rfl ((sp_i1 i)) (by decide) rfl ?_
        refine sp_goto X (pc := 50) (tgt := 17) dX12_partWord_50 (by decide) ?_
        refine sp_pick X [1, 2, 3, 0] (lv' := [(0, false, va_rf (some (B 0))), (1, false, .int (nI j)), (2, false, .int (nI k)), (3, false, .int (nI (i + 1)))]) rfl ?_
        exact ih _ (by omega) (i + 1) _ hVm46 hwd2 (by omega) c2 rfl
  refine sp_pick X [1, 2, 3, 0] (lv' := [(0, false, va_rf (some (B 0))), (1, false, .int (nI j)), (2, false, .int (nI k)), (3, false, .int 0)]) rfl ?_
  exact loop17 _ 0 _ hVm12 hwd (by omega) (fun z y => absurd y (Nat.not_lt_zero _)) rfl
set_option maxRecDepth 20000 in
theorem c_Mo_find (l : Launch) (G : sp_G) (m : sp_M) {B : Nat → Nat} {m0 : sp_M} {D : Nat → Int32} {R : Int32} {l0 l1 : Int64} {d n b p t e L ws : Nat} {vq vm vl : Int32} {vs : Int64} {vA vE : Nat → Int64} (hVm : sp_V B m0 m D R l0 l1 d n b p t e L ws vq vm vl vs vA vE)  {T : pu_N} {nb0 nt0 : Nat} (hMN : sp_mN m B n L T) (hW : pu_W n nb0 nt0 T) {PT : Nat → List (List Int32)} (hP : sp_mP m B p PT) (hPl : pu_P p PT) {x : Int32} : sp_C l G M_Mo_find 0 0 [.ref (B 0), .int x] m (sp_oI fun v m' => (∃ w', sp_V B m0 m' D R l0 l1 d n b p t e L w' vq vm vl vs vA vE ∧ sp_rk B [34] m m') ∧ pu_find v R n T p PT x) := by
  refine sp_enter (lv0 := [(0, false, va_rf (some (B 0))), (1, false, .int x)]) "SafePathsModel" false rfl (by decide) (fun h => by cases h) (Nat.le_of_ble_eq_true rfl) rfl ?_
  intro w X
  have bd := hVm.hd
  have bn := hVm.hn
  have bb := hVm.hb
  have bp := hVm.hp
  have bt := hVm.ht
  have be := hVm.he
  have bw := hVm.hw
  have bL := hVm.hL
  have rkm : sp_rk B [34] m m := sp_rk.refl _ _ _
  have h4 := hW.1.1
  refine sp_aload_n X (pc := 0) (r := some (B 0)) dX12_find_0 rfl rfl ?_
  refine sp_iload_n X (pc := 1) (x := x) dX12_find_1 rfl rfl ?_
  refine sp_callV X (pc := 2) (mc := 0) (ms := 0) (b := (B 0)) (c := 13) (r := some (B 0)) (As := [.int x]) (rest := []) (c_Mo_isPath l G _ hVm) ok_Mo_isPath rfl hVm.r.o (by decide) rfl lk_Mo_149 rfl rfl (Nat.zero_le _) (Nat.le_of_ble_eq_true rfl) (Nat.le_of_ble_eq_true rfl) (Nat.zero_le _) (Nat.zero_le _) dX12_find_2 (sp_kI fun v2 m2 hp2 => ?_)
  obtain ⟨hp2, hp2m⟩ := hp2; replace hp2m := (hp2m).symm; subst hp2m
  refine sp_if_ne X (pc := 5) (tgt := 11) dX12_find_5 (by decide) (fun hb5 => ?_) (fun hb5 => ?_)
  · obtain ⟨j, rfl, hj⟩ := hp2.ne hb5
    have lj := hPl j hj
    have hq := (hP j hj).1
    refine sp_iconst X (pc := 11) (v := 1) dX12_find_11 (by decide) ?_
    refine sp_istore_n X (pc := 12) (lv' := [(2, false, .int 1), (0, false, va_rf (some (B 0))), (1, false, .int (nI j))]) dX12_find_12 rfl (by decide) rfl ?_
    refine sp_iconst X (pc := 13) (v := 0) dX12_find_13 (by decide) ?_
    refine sp_istore_n X (pc := 14) (lv' := [(3, false, .int 0), (2, false, .int 1), (0, false, va_rf (some (B 0))), (1, false, .int (nI j))]) dX12_find_14 rfl (by decide) rfl ?_
    have loop15 : ∀ (dz : Nat) (f k w1 : Nat) (m1 : sp_M), sp_rk B [34] m m1 → f < n → k ≤ (PT j).length → sp_V B m0 m1 D R l0 l1 d n b p t e L w1 vq vm vl vs vA vE → (∀ o, pu_rc R n T False f ((PT j).drop k) o → pu_rc R n T False 1 (PT j) o) → (PT j).length - k = dz → w 0 0 m1 15 [(0, false, va_rf (some (B 0))), (1, false, .int (nI j)), (2, false, .int (nI f)), (3, false, .int (nI k))] [] := by
      intro dz
      induction dz using Nat.strongRecOn with
      | ind dz ih =>
        intro f k w1 m1 rkm1 hf hk hVm1 hrc hdz
        refine sp_iload_n X (pc := 15) (x := nI k) dX12_find_15 rfl rfl ?_
        refine sp_aload_n X (pc := 16) (r := some (B 0)) dX12_find_16 rfl rfl ?_
        refine sp_getfield X (pc := 17) (c := 13) (i := 18) (t := 2) (a := (B 0)) (v := va_rf (some (B 18))) rfl hVm1.r.o (by decide) rfl (congrArg va_rf hVm1.f18) fl_Mo_48 dX12_find_17 ?_
        refine sp_iload_n X (pc := 20) (x := nI j) dX12_find_20 rfl rfl ?_
        refine sp_iaload X (pc := 21) (a := (B 18)) rfl (Or.inl hVm1.y18) (sp_in j hVm1.l18 (by omega) (by decide)) dX12_find_21 ?_
        rw [show (m1.aI (B 18) (nI j).toNatClampNeg) = (m1.aI (B 18) j) from (congrArg _ (nI_clamp (n := j) (by omega)))]
        rw [show (m1.aI (B 18) j) = (nI (PT j).length) from ((congrFun (rkm1 18 (by decide) (by decide)) j).trans hq)]
        refine sp_icmp_ge X (pc := 22) (tgt := 69) dX12_find_22 (by decide) (fun hb22 => ?_) (fun hb22 => ?_)
        · have hkq : (PT j).length ≤ k := sp_nge hb22 (by omega) (by omega)
          refine sp_iload_n X (pc := 69) (x := nI f) dX12_find_69 rfl rfl ?_
          refine sp_ireturn X (pc := 70) dX12_find_70 rfl ⟨_, rfl, ?_⟩
          exact ⟨⟨_, hVm1, rkm1⟩, Or.inr ⟨j, hj, rfl, some f, hrc _ (by rw [List.drop_eq_nil_of_le hkq]; rfl), Or.inr ⟨f, rfl, rfl⟩⟩⟩
        · have hkq : k < (PT j).length := sp_nlt hb22 (by omega)
          have hdr : (PT j).drop k = (PT j).getD k [] :: (PT j).drop (k + 1) := by
            rw [List.getD_eq_getElem?_getD, List.getElem?_eq_getElem hkq]
            exact List.drop_eq_getElem_cons hkq
          have lk := lj.2.2 k hkq
          refine sp_aload_n X (pc := 25) (r := some (B 0)) dX12_find_25 rfl rfl ?_
          refine sp_iload_n X (pc := 26) (x := nI j) dX12_find_26 rfl rfl ?_
          refine sp_iload_n X (pc := 27) (x := nI k) dX12_find_27 rfl rfl ?_
          refine sp_callV X (pc := 28) (mc := 0) (ms := 0) (b := (B 0)) (c := 13) (r := some (B 0)) (As := [.int (nI j), .int (nI k)]) (rest := []) (c_Mo_partWord l G _ hVm1 (hP.rk rkm1 (by decide) (by decide) (by decide)) hPl hj hkq) ok_Mo_partWord rfl hVm1.r.o (by decide) rfl lk_Mo_189 rfl rfl (Nat.zero_le _) (Nat.le_of_ble_eq_true rfl) (Nat.le_of_ble_eq_true rfl) (Nat.zero_le _) (Nat.zero_le _) dX12_find_28 (sp_kV fun m28 hp28 => ?_)
          obtain ⟨hVm28, hwd28, hwu28⟩ := hp28
          have rk28 := rkm1.trans (sp_rk.wd hwd28 hVm1.r)
          have hMN28 := hMN.rk rk28 (by decide)
          have n1 := (hMN28.1 f hf).1
          have rkm28 : sp_rk B [34] m m28 := rkm1.trans ((sp_rk.wd hwd28 hVm1.r).mono (by decide))
          refine sp_aload_n X (pc := 31) (r := some (B 0)) dX12_find_31 rfl rfl ?_
          refine sp_getfield X (pc := 32) (c := 13) (i := 4) (t := 2) (a := (B 0)) (v := va_rf (some (B 4))) rfl hVm28.r.o (by decide) rfl (congrArg va_rf hVm28.f4) fl_Mo_13 dX12_find_32 ?_
          refine sp_iload_n X (pc := 35) (x := nI f) dX12_find_35 rfl rfl ?_
          refine sp_iaload X (pc := 36) (a := (B 4)) rfl (Or.inl hVm28.y4) (sp_in f hVm28.l4 (by omega) (by decide)) dX12_find_36 ?_
          rw [show (m28.aI (B 4) (nI f).toNatClampNeg) = (m28.aI (B 4) f) from (congrArg _ (nI_clamp (n := f) (by omega)))]
          rw [show (m28.aI (B 4) f) = (T.k f) from n1]
          refine sp_if_ne X (pc := 37) (tgt := 48) dX12_find_37 (by decide) (fun hb37 => ?_) (fun hb37 => ?_)
          · refine sp_iconst X (pc := 48) (v := (-1)) dX12_find_48 (by decide) ?_
            refine sp_istore X (pc := 49) (lv' := [(4, false, .int (-1)), (0, false, va_rf (some (B 0))), (1, false, .int (nI j)), (2, false, .int (nI f)), (3, false, .int (nI k))]) dX12_find_49  (by decide) rfl ?_
            refine sp_iload X (pc := 51) (x := (-1)) dX12_find_51 rfl ?_
            refine sp_iconst X (pc := 53) (v := (-1)) dX12_find_53 (by decide) ?_
            refine sp_icmp_ne X (pc := 54) (tgt := 60) dX12_find_54 (by decide) (fun hb54 => ?_) (fun hb54 => ?_)
            · first | exact absurd hb54 (by decide) | exact absurd (by decide) hb54
            · refine sp_bipush X (pc := 57) (v := (-2)) dX12_find_57 (by decide) ?_
              refine sp_ireturn X (pc := 59) dX12_find_59 rfl ⟨_, rfl, ?_⟩
              first
                | exact ⟨⟨_, hVm28, rkm28⟩, Or.inr ⟨j, hj, rfl, none, hrc _ (by rw [hdr]; exact Or.inr ⟨hb37, Or.inl ⟨by rw [← hon]; exact ho9, rfl⟩⟩), Or.inl ⟨rfl, rfl⟩⟩⟩
                | exact ⟨⟨_, hVm28, rkm28⟩, Or.inr ⟨j, hj, rfl, none, hrc _ (by rw [hdr]; exact Or.inl ⟨hb37, rfl⟩), Or.inl ⟨rfl, rfl⟩⟩⟩
          · refine sp_aload_n X (pc := 40) (r := some (B 0)) dX12_find_40 rfl rfl ?_
            refine sp_iload_n X (pc := 41) (x := nI f) dX12_find_41 rfl rfl ?_
            refine sp_callV X (pc := 42) (mc := 0) (ms := 0) (b := (B 0)) (c := 13) (r := some (B 0)) (As := [.int (nI f)]) (rest := []) (c_Mo_in l G _ hVm28 hMN28 hW hf lk.1) ok_Mo_in rfl hVm28.r.o (by decide) rfl lk_Mo_171 rfl rfl (Nat.zero_le _) (Nat.le_of_ble_eq_true rfl) (Nat.le_of_ble_eq_true rfl) (Nat.zero_le _) (Nat.zero_le _) dX12_find_42 (sp_kI fun v42 m42 hp42 => ?_)
            obtain ⟨hp42, hp42m⟩ := hp42; replace hp42m := (hp42m).symm; subst hp42m
            rw [hwu28] at hp42
            obtain ⟨o9, ho9, hv42⟩ := hp42
            refine sp_goto X (pc := 45) (tgt := 49) dX12_find_45 (by decide) ?_
            refine sp_istore X (pc := 49) (lv' := [(4, false, .int v42), (0, false, va_rf (some (B 0))), (1, false, .int (nI j)), (2, false, .int (nI f)), (3, false, .int (nI k))]) dX12_find_49  (by decide) rfl ?_
            refine sp_iload X (pc := 51) (x := v42) dX12_find_51 rfl ?_
            refine sp_iconst X (pc := 53) (v := (-1)) dX12_find_53 (by decide) ?_
            refine sp_icmp_ne X (pc := 54) (tgt := 60) dX12_find_54 (by decide) (fun hb54 => ?_) (fun hb54 => ?_)
            · have hj0 : ∃ i, o9 = some i ∧ v42 = nI i := by
                rcases hv42 with ⟨-, z⟩ | z
                · exact absurd z hb54
                · exact z
              obtain ⟨i, rfl, rfl⟩ := hj0
              have hi := ho9.lt.1
              refine sp_iload X (pc := 60) (x := (nI i)) dX12_find_60 rfl ?_
              refine sp_istore_n X (pc := 62) (lv' := [(2, false, .int (nI i)), (4, false, .int (nI i)), (0, false, va_rf (some (B 0))), (1, false, .int (nI j)), (3, false, .int (nI k))]) dX12_find_62 rfl (by decide) rfl ?_
              refine sp_iinc X (pc := 63) (v := (nI (k + 1))) (lv' := [(3, false, .int (nI (k + 1))), (2, false, .int (nI i)), (4, false, .int (nI i)), (0, false, va_rf (some (B 0))), (1, false, .int (nI j))]) dX12_find_63 rfl ((sp_i1 k)) (by decide) rfl ?_
              refine sp_goto X (pc := 66) (tgt := 15) dX12_find_66 (by decide) ?_
              refine sp_pick X [3, 4, 1, 0] (lv' := [(0, false, va_rf (some (B 0))), (1, false, .int (nI j)), (2, false, .int (nI i)), (3, false, .int (nI (k + 1)))]) rfl ?_
              exact ih _ (by omega) i (k + 1) _ _ rkm28 hi (by omega) hVm28 (fun o z => hrc o (by rw [hdr]; exact Or.inr ⟨hb37, Or.inr ⟨i, ho9, Or.inr ⟨fun y => y.1, z⟩⟩⟩)) rfl
            · have hon : o9 = none := by
                rcases hv42 with ⟨z, -⟩ | ⟨i, z0, z⟩
                · exact z
                · rw [z0] at ho9
                  have := ho9.lt.1
                  rw [z] at hb54; exact absurd hb54 (sp_nn9 (by omega))
              refine sp_bipush X (pc := 57) (v := (-2)) dX12_find_57 (by decide) ?_
              refine sp_ireturn X (pc := 59) dX12_find_59 rfl ⟨_, rfl, ?_⟩
              first
                | exact ⟨⟨_, hVm28, rkm28⟩, Or.inr ⟨j, hj, rfl, none, hrc _ (by rw [hdr]; exact Or.inr ⟨hb37, Or.inl ⟨by rw [← hon]; exact ho9, rfl⟩⟩), Or.inl ⟨rfl, rfl⟩⟩⟩
                | exact ⟨⟨_, hVm28, rkm28⟩, Or.inr ⟨j, hj, rfl, none, hrc _ (by rw [hdr]; exact Or.inl ⟨hb37, rfl⟩), Or.inl ⟨rfl, rfl⟩⟩⟩
    refine sp_pick X [2, 3, 1, 0] (lv' := [(0, false, va_rf (some (B 0))), (1, false, .int (nI j)), (2, false, .int 1), (3, false, .int 0)]) rfl ?_
    exact loop15 _ 1 0 _ _ rkm (by omega) (Nat.zero_le _) hVm (fun o z => z) rfl
  · have hno : ¬ ∃ j, j < p ∧ x = nI j := fun ⟨j, q1, q2⟩ => hp2.eq hb5 ⟨j, q2, q1⟩
    refine sp_bipush X (pc := 8) (v := (-7)) dX12_find_8 (by decide) ?_
    refine sp_ireturn X (pc := 10) dX12_find_10 rfl ⟨_, rfl, ?_⟩
    exact ⟨⟨_, hVm, rkm⟩, Or.inl ⟨hno, rfl⟩⟩
set_option maxHeartbeats 1000000 in
set_option maxRecDepth 20000 in
theorem c_Mo_finish (l : Launch) (G : sp_G) (m : sp_M) {B : Nat → Nat} {m0 : sp_M} {D : Nat → Int32} {R : Int32} {l0 l1 : Int64} {d n b p t e ws : Nat} {vq vm vl : Int32} {vs : Int64} {vA vE : Nat → Int64} (hVm : sp_V B m0 m D R l0 l1 d n b p t e n ws vq vm vl vs vA vE)  {Z : pu_Z} {nt0 : Nat} (hMZ : sp_mZ m B n b vq vm vs vA Z) (hZW : pu_ZW nt0 Z) : sp_C l G M_Mo_finish 0 0 [.ref (B 0)] m (sp_oI fun v m' => v = nI (pu_cs (pu_fn Z)) ∧ sp_V B m0 m' D R l0 l1 d n b p t e n ws 0 vm vl vs vA vE ∧ sp_rk B [5, 12] m m' ∧ sp_mZ m' B n b 0 vm vs vA (pu_fn Z)) := by
  refine sp_enter (lv0 := [(0, false, va_rf (some (B 0)))]) "SafePathsModel" false rfl (by decide) (fun h => by cases h) (Nat.le_of_ble_eq_true rfl) rfl ?_
  intro w X
  have bd := hVm.hd
  have bn := hVm.hn
  have bb := hVm.hb
  have bp := hVm.hp
  have bt := hVm.ht
  have be := hVm.he
  have bw := hVm.hw
  have bL := hVm.hL
  have rkm : sp_rk B [5, 12] m m := sp_rk.refl _ _ _
  obtain ⟨⟨hZn, hZb⟩, hMN, hMB, hMQ, hvq, hvm, hvs⟩ := id hMZ
  have hW : pu_W n b nt0 Z.T := by rw [hZn, hZb]; exact hZW.1
  have h4 := hW.1.1
  obtain ⟨fr1, fr2, fr3, fr4, fr5, fr6⟩ := pu_fin.rest Z.q Z.T
  refine sp_iconst X (pc := 0) (v := 0) dX12_finish_0 (by decide) ?_
  refine sp_istore_n X (pc := 1) (lv' := [(1, false, .int 0), (0, false, va_rf (some (B 0)))]) dX12_finish_1 rfl (by decide) rfl ?_
  refine sp_iconst X (pc := 2) (v := 0) dX12_finish_2 (by decide) ?_
  refine sp_istore_n X (pc := 3) (lv' := [(2, false, .int 0), (1, false, .int 0), (0, false, va_rf (some (B 0)))]) dX12_finish_3 rfl (by decide) rfl ?_
  have loop4 : ∀ (dz : Nat) (k : Nat) (m1 : sp_M), sp_rk B [5, 12] m m1 → sp_V B m0 m1 D R l0 l1 d n b p t e n ws vq vm vl vs vA vE → k ≤ n → (∀ j, j < n → m1.aI (B 5) j = (if j < k then (pu_last Z.q j).getD (Z.T.s j) else Z.T.s j)) → (∀ j, n ≤ j → m1.aI (B 5) j = 0) → (∀ j, j < n → m1.aI (B 12) j = (if j < k then -1 else (pu_last Z.q j).getD (-1))) → n - k = dz → w 0 0 m1 4 [(0, false, va_rf (some (B 0))), (1, false, .int (nI (pu_ct (fun q => Z.T.g q = 0 ∧ Z.T.k q = 0 ∧ ¬ (pu_fin Z.T Z.q).s q = 0) k))), (2, false, .int (nI k))] [] := by
    intro dz
    induction dz using Nat.strongRecOn with
    | ind dz ih =>
      intro k m1 rkm1 hVm1 hk0 h5 h5z h12 hdz
      have cut50 : ∀ (m2 : sp_M), sp_rk B [5, 12] m m2 → sp_V B m0 m2 D R l0 l1 d n b p t e n ws vq vm vl vs vA vE → k < n → (∀ j, j < n → m2.aI (B 5) j = (if j < k + 1 then (pu_last Z.q j).getD (Z.T.s j) else Z.T.s j)) → (∀ j, n ≤ j → m2.aI (B 5) j = 0) → (∀ j, j < n → m2.aI (B 12) j = (if j < k + 1 then -1 else (pu_last Z.q j).getD (-1))) → m2.aI (B 7) k = Z.T.g k → m2.aI (B 4) k = Z.T.k k → True → True → w 0 0 m2 50 [(0, false, va_rf (some (B 0))), (1, false, .int (nI (pu_ct (fun q => Z.T.g q = 0 ∧ Z.T.k q = 0 ∧ ¬ (pu_fin Z.T Z.q).s q = 0) k))), (2, false, .int (nI k))] [] := by
        intro m2 rkm2 hVm2 hk d5 d5z d12 d7 d4 e12 n9
        have e9 : (pu_fin Z.T Z.q).s k = (pu_last Z.q k).getD (Z.T.s k) := pu_fin.s Z.T Z.q k
        refine sp_iload_n X (pc := 50) (x := (nI (pu_ct (fun q => Z.T.g q = 0 ∧ Z.T.k q = 0 ∧ ¬ (pu_fin Z.T Z.q).s q = 0) k))) dX12_finish_50 rfl rfl ?_
        refine sp_aload_n X (pc := 51) (r := some (B 0)) dX12_finish_51 rfl rfl ?_
        refine sp_getfield X (pc := 52) (c := 13) (i := 7) (t := 2) (a := (B 0)) (v := va_rf (some (B 7))) rfl hVm2.r.o (by decide) rfl (congrArg va_rf hVm2.f7) fl_Mo_23 dX12_finish_52 ?_
        refine sp_iload_n X (pc := 55) (x := nI k) dX12_finish_55 rfl rfl ?_
        refine sp_baload X (pc := 56) (a := (B 7)) rfl hVm2.y7 (sp_in k hVm2.l7 (by omega) (by decide)) dX12_finish_56 ?_
        rw [show (m2.aI (B 7) (nI k).toNatClampNeg) = (m2.aI (B 7) k) from (congrArg _ (nI_clamp (n := k) (by omega)))]
        rw [show (m2.aI (B 7) k) = (Z.T.g k) from d7]
        refine sp_if_ne X (pc := 57) (tgt := 82) dX12_finish_57 (by decide) (fun hb57 => ?_) (fun hb57 => ?_)
        · have hct : pu_ct (fun q => Z.T.g q = 0 ∧ Z.T.k q = 0 ∧ ¬ (pu_fin Z.T Z.q).s q = 0) (k + 1) = pu_ct (fun q => Z.T.g q = 0 ∧ Z.T.k q = 0 ∧ ¬ (pu_fin Z.T Z.q).s q = 0) k := pu_ct_f (fun z => hb57 z.1)
          refine sp_iconst X (pc := 82) (v := 0) dX12_finish_82 (by decide) ?_
          refine sp_iadd X (pc := 83) dX12_finish_83 ?_
          rw [show ((nI (pu_ct (fun q => Z.T.g q = 0 ∧ Z.T.k q = 0 ∧ ¬ (pu_fin Z.T Z.q).s q = 0) k)) + 0) = (nI (pu_ct (fun q => Z.T.g q = 0 ∧ Z.T.k q = 0 ∧ ¬ (pu_fin Z.T Z.q).s q = 0) (k + 1))) from (by rw [hct]; first | exact nI_1 _ | exact Int32.add_zero _)]
          refine sp_istore_n X (pc := 84) (lv' := [(1, false, .int (nI (pu_ct (fun q => Z.T.g q = 0 ∧ Z.T.k q = 0 ∧ ¬ (pu_fin Z.T Z.q).s q = 0) (k + 1)))), (0, false, va_rf (some (B 0))), (2, false, .int (nI k))]) dX12_finish_84 rfl (by decide) rfl ?_
          refine sp_iinc X (pc := 85) (v := (nI (k + 1))) (lv' := [(2, false, .int (nI (k + 1))), (1, false, .int (nI (pu_ct (fun q => Z.T.g q = 0 ∧ Z.T.k q = 0 ∧ ¬ (pu_fin Z.T Z.q).s q = 0) (k + 1)))), (0, false, va_rf (some (B 0)))]) dX12_finish_85 rfl ((sp_i1 k)) (by decide) rfl ?_
          refine sp_goto X (pc := 88) (tgt := 4) dX12_finish_88 (by decide) ?_
          refine sp_pick X [2, 1, 0] (lv' := [(0, false, va_rf (some (B 0))), (1, false, .int (nI (pu_ct (fun q => Z.T.g q = 0 ∧ Z.T.k q = 0 ∧ ¬ (pu_fin Z.T Z.q).s q = 0) (k + 1)))), (2, false, .int (nI (k + 1)))]) rfl ?_
          exact ih _ (by omega) (k + 1) _ rkm2 hVm2 (by omega) d5 d5z d12 rfl
        · refine sp_aload_n X (pc := 60) (r := some (B 0)) dX12_finish_60 rfl rfl ?_
          refine sp_getfield X (pc := 61) (c := 13) (i := 4) (t := 2) (a := (B 0)) (v := va_rf (some (B 4))) rfl hVm2.r.o (by decide) rfl (congrArg va_rf hVm2.f4) fl_Mo_13 dX12_finish_61 ?_
          refine sp_iload_n X (pc := 64) (x := nI k) dX12_finish_64 rfl rfl ?_
          refine sp_iaload X (pc := 65) (a := (B 4)) rfl (Or.inl hVm2.y4) (sp_in k hVm2.l4 (by omega) (by decide)) dX12_finish_65 ?_
          rw [show (m2.aI (B 4) (nI k).toNatClampNeg) = (m2.aI (B 4) k) from (congrArg _ (nI_clamp (n := k) (by omega)))]
          rw [show (m2.aI (B 4) k) = (Z.T.k k) from d4]
          refine sp_if_ne X (pc := 66) (tgt := 82) dX12_finish_66 (by decide) (fun hb66 => ?_) (fun hb66 => ?_)
          · have hct : pu_ct (fun q => Z.T.g q = 0 ∧ Z.T.k q = 0 ∧ ¬ (pu_fin Z.T Z.q).s q = 0) (k + 1) = pu_ct (fun q => Z.T.g q = 0 ∧ Z.T.k q = 0 ∧ ¬ (pu_fin Z.T Z.q).s q = 0) k := pu_ct_f (fun z => hb66 z.2.1)
            refine sp_iconst X (pc := 82) (v := 0) dX12_finish_82 (by decide) ?_
            refine sp_iadd X (pc := 83) dX12_finish_83 ?_
            rw [show ((nI (pu_ct (fun q => Z.T.g q = 0 ∧ Z.T.k q = 0 ∧ ¬ (pu_fin Z.T Z.q).s q = 0) k)) + 0) = (nI (pu_ct (fun q => Z.T.g q = 0 ∧ Z.T.k q = 0 ∧ ¬ (pu_fin Z.T Z.q).s q = 0) (k + 1))) from (by rw [hct]; first | exact nI_1 _ | exact Int32.add_zero _)]
            refine sp_istore_n X (pc := 84) (lv' := [(1, false, .int (nI (pu_ct (fun q => Z.T.g q = 0 ∧ Z.T.k q = 0 ∧ ¬ (pu_fin Z.T Z.q).s q = 0) (k + 1)))), (0, false, va_rf (some (B 0))), (2, false, .int (nI k))]) dX12_finish_84 rfl (by decide) rfl ?_
            refine sp_iinc X (pc := 85) (v := (nI (k + 1))) (lv' := [(2, false, .int (nI (k + 1))), (1, false, .int (nI (pu_ct (fun q => Z.T.g q = 0 ∧ Z.T.k q = 0 ∧ ¬ (pu_fin Z.T Z.q).s q = 0) (k + 1)))), (0, false, va_rf (some (B 0)))]) dX12_finish_85 rfl ((sp_i1 k)) (by decide) rfl ?_
            refine sp_goto X (pc := 88) (tgt := 4) dX12_finish_88 (by decide) ?_
            refine sp_pick X [2, 1, 0] (lv' := [(0, false, va_rf (some (B 0))), (1, false, .int (nI (pu_ct (fun q => Z.T.g q = 0 ∧ Z.T.k q = 0 ∧ ¬ (pu_fin Z.T Z.q).s q = 0) (k + 1)))), (2, false, .int (nI (k + 1)))]) rfl ?_
            exact ih _ (by omega) (k + 1) _ rkm2 hVm2 (by omega) d5 d5z d12 rfl
          · refine sp_aload_n X (pc := 69) (r := some (B 0)) dX12_finish_69 rfl rfl ?_
            refine sp_getfield X (pc := 70) (c := 13) (i := 5) (t := 2) (a := (B 0)) (v := va_rf (some (B 5))) rfl hVm2.r.o (by decide) rfl (congrArg va_rf hVm2.f5) fl_Mo_16 dX12_finish_70 ?_
            refine sp_iload_n X (pc := 73) (x := nI k) dX12_finish_73 rfl rfl ?_
            refine sp_baload X (pc := 74) (a := (B 5)) rfl hVm2.y5 (sp_in k hVm2.l5 (by omega) (by decide)) dX12_finish_74 ?_
            rw [show (m2.aI (B 5) (nI k).toNatClampNeg) = (m2.aI (B 5) k) from (congrArg _ (nI_clamp (n := k) (by omega)))]
            rw [show (m2.aI (B 5) k) = ((pu_last Z.q k).getD (Z.T.s k)) from (by rw [d5 k hk, if_pos (by omega)])]
            refine sp_if_eq X (pc := 75) (tgt := 82) dX12_finish_75 (by decide) (fun hb75 => ?_) (fun hb75 => ?_)
            · have hct : pu_ct (fun q => Z.T.g q = 0 ∧ Z.T.k q = 0 ∧ ¬ (pu_fin Z.T Z.q).s q = 0) (k + 1) = pu_ct (fun q => Z.T.g q = 0 ∧ Z.T.k q = 0 ∧ ¬ (pu_fin Z.T Z.q).s q = 0) k := pu_ct_f (fun z => z.2.2 (e9.trans hb75))
              refine sp_iconst X (pc := 82) (v := 0) dX12_finish_82 (by decide) ?_
              refine sp_iadd X (pc := 83) dX12_finish_83 ?_
              rw [show ((nI (pu_ct (fun q => Z.T.g q = 0 ∧ Z.T.k q = 0 ∧ ¬ (pu_fin Z.T Z.q).s q = 0) k)) + 0) = (nI (pu_ct (fun q => Z.T.g q = 0 ∧ Z.T.k q = 0 ∧ ¬ (pu_fin Z.T Z.q).s q = 0) (k + 1))) from (by rw [hct]; first | exact nI_1 _ | exact Int32.add_zero _)]
              refine sp_istore_n X (pc := 84) (lv' := [(1, false, .int (nI (pu_ct (fun q => Z.T.g q = 0 ∧ Z.T.k q = 0 ∧ ¬ (pu_fin Z.T Z.q).s q = 0) (k + 1)))), (0, false, va_rf (some (B 0))), (2, false, .int (nI k))]) dX12_finish_84 rfl (by decide) rfl ?_
              refine sp_iinc X (pc := 85) (v := (nI (k + 1))) (lv' := [(2, false, .int (nI (k + 1))), (1, false, .int (nI (pu_ct (fun q => Z.T.g q = 0 ∧ Z.T.k q = 0 ∧ ¬ (pu_fin Z.T Z.q).s q = 0) (k + 1)))), (0, false, va_rf (some (B 0)))]) dX12_finish_85 rfl ((sp_i1 k)) (by decide) rfl ?_
              refine sp_goto X (pc := 88) (tgt := 4) dX12_finish_88 (by decide) ?_
              refine sp_pick X [2, 1, 0] (lv' := [(0, false, va_rf (some (B 0))), (1, false, .int (nI (pu_ct (fun q => Z.T.g q = 0 ∧ Z.T.k q = 0 ∧ ¬ (pu_fin Z.T Z.q).s q = 0) (k + 1)))), (2, false, .int (nI (k + 1)))]) rfl ?_
              exact ih _ (by omega) (k + 1) _ rkm2 hVm2 (by omega) d5 d5z d12 rfl
            · have hct : pu_ct (fun q => Z.T.g q = 0 ∧ Z.T.k q = 0 ∧ ¬ (pu_fin Z.T Z.q).s q = 0) (k + 1) = pu_ct (fun q => Z.T.g q = 0 ∧ Z.T.k q = 0 ∧ ¬ (pu_fin Z.T Z.q).s q = 0) k + 1 := pu_ct_t ⟨hb57, hb66, fun z => hb75 (e9.symm.trans z)⟩
              refine sp_iconst X (pc := 78) (v := 1) dX12_finish_78 (by decide) ?_
              refine sp_goto X (pc := 79) (tgt := 83) dX12_finish_79 (by decide) ?_
              refine sp_iadd X (pc := 83) dX12_finish_83 ?_
              rw [show ((nI (pu_ct (fun q => Z.T.g q = 0 ∧ Z.T.k q = 0 ∧ ¬ (pu_fin Z.T Z.q).s q = 0) k)) + 1) = (nI (pu_ct (fun q => Z.T.g q = 0 ∧ Z.T.k q = 0 ∧ ¬ (pu_fin Z.T Z.q).s q = 0) (k + 1))) from (by rw [hct]; first | exact nI_1 _ | exact Int32.add_zero _)]
              refine sp_istore_n X (pc := 84) (lv' := [(1, false, .int (nI (pu_ct (fun q => Z.T.g q = 0 ∧ Z.T.k q = 0 ∧ ¬ (pu_fin Z.T Z.q).s q = 0) (k + 1)))), (0, false, va_rf (some (B 0))), (2, false, .int (nI k))]) dX12_finish_84 rfl (by decide) rfl ?_
              refine sp_iinc X (pc := 85) (v := (nI (k + 1))) (lv' := [(2, false, .int (nI (k + 1))), (1, false, .int (nI (pu_ct (fun q => Z.T.g q = 0 ∧ Z.T.k q = 0 ∧ ¬ (pu_fin Z.T Z.q).s q = 0) (k + 1)))), (0, false, va_rf (some (B 0)))]) dX12_finish_85 rfl ((sp_i1 k)) (by decide) rfl ?_
              refine sp_goto X (pc := 88) (tgt := 4) dX12_finish_88 (by decide) ?_
              refine sp_pick X [2, 1, 0] (lv' := [(0, false, va_rf (some (B 0))), (1, false, .int (nI (pu_ct (fun q => Z.T.g q = 0 ∧ Z.T.k q = 0 ∧ ¬ (pu_fin Z.T Z.q).s q = 0) (k + 1)))), (2, false, .int (nI (k + 1)))]) rfl ?_
              exact ih _ (by omega) (k + 1) _ rkm2 hVm2 (by omega) d5 d5z d12 rfl
      refine sp_iload_n X (pc := 4) (x := nI k) dX12_finish_4 rfl rfl ?_
      refine sp_aload_n X (pc := 5) (r := some (B 0)) dX12_finish_5 rfl rfl ?_
      refine sp_getfield X (pc := 6) (c := 13) (i := 3) (t := 0) (a := (B 0)) (v := .int (nI n)) rfl hVm1.r.o (by decide) rfl (congrArg Value.int hVm1.cn) fl_Mo_115 dX12_finish_6 ?_
      refine sp_icmp_ge X (pc := 9) (tgt := 91) dX12_finish_9 (by decide) (fun hb9 => ?_) (fun hb9 => ?_)
      · have hk : n = k := by
          have := sp_nge hb9 (by omega) (by omega)
          omega
        subst hk
        refine sp_aload_n X (pc := 91) (r := some (B 0)) dX12_finish_91 rfl rfl ?_
        refine sp_iconst X (pc := 92) (v := 0) dX12_finish_92 (by decide) ?_
        refine sp_putI X (pc := 93) (c := 13) (i := 13) (q := 845) (a := (B 0)) rfl hVm1.r.o (by decide) rfl rfl (Or.inl rfl) ⟨rfl, rfl⟩ fl_Mo_227 dX12_finish_93 ?_
        obtain ⟨m93, hm93⟩ : ∃ xm, xm = (m1.pI 845 (B 0) 0) := ⟨_, rfl⟩
        rw [← hm93]
        have hVm93 : sp_V B m0 m93 D R l0 l1 d n b p t e n ws 0 vm vl vs vA vE := by
          rw [hm93]
          exact hVm1.xq 0
        have rkm93 : sp_rk B [5, 12] m m93 := by
          rw [hm93]
          exact rkm1
        have k93 : m93.aI = m1.aI := by
          rw [hm93]
          rfl
        clear hm93
        refine sp_iload_n X (pc := 96) (x := (nI (pu_ct (fun q => Z.T.g q = 0 ∧ Z.T.k q = 0 ∧ ¬ (pu_fin Z.T Z.q).s q = 0) n))) dX12_finish_96 rfl rfl ?_
        refine sp_ireturn X (pc := 97) dX12_finish_97 rfl ⟨_, rfl, ?_⟩
        have hcs : pu_ct (fun q => Z.T.g q = 0 ∧ Z.T.k q = 0 ∧ ¬ (pu_fin Z.T Z.q).s q = 0) n = pu_cs (pu_fn Z) := by
          show _ = pu_ct (fun q => (pu_fin Z.T Z.q).g q = 0 ∧ (pu_fin Z.T Z.q).k q = 0 ∧ ¬ (pu_fin Z.T Z.q).s q = 0) Z.n
          rw [fr1, fr3, hZn]
        refine ⟨by rw [← hcs], hVm93, rkm93, ⟨hZn, hZb⟩, ⟨fun j hj => ?_, fun j hj => ?_, fun j hj hk => ?_⟩, fun j hj => ?_, fun j hj => ?_, rfl, hvm, hvs⟩
        · obtain ⟨n1, n2, n3, n4, n5, n6, n7⟩ := hMN.1 j hj
          show m93.aI (B 4) j = (pu_fin Z.T Z.q).k j ∧ m93.aI (B 5) j = (pu_fin Z.T Z.q).s j ∧ m93.aI (B 6) j = (pu_fin Z.T Z.q).d j ∧ m93.aI (B 7) j = (pu_fin Z.T Z.q).g j ∧ m93.aI (B 8) j = nI ((pu_fin Z.T Z.q).o j) ∧ m93.aI (B 10) j = nI ((pu_fin Z.T Z.q).w j).length ∧ ∀ i, i < ((pu_fin Z.T Z.q).w j).length → m93.aI (B 11) (16 * j + i) = ((pu_fin Z.T Z.q).w j).getD i 0
          rw [fr1, fr2, fr3, fr4, fr6, pu_fin.s, k93, rkm1 4 (by decide) (by decide), rkm1 6 (by decide) (by decide), rkm1 7 (by decide) (by decide), rkm1 8 (by decide) (by decide), rkm1 10 (by decide) (by decide), rkm1 11 (by decide) (by decide)]
          exact ⟨n1, by rw [h5 j hj, if_pos hj], n3, n4, n5, n6, n7⟩
        · rw [k93, rkm1 6 (by decide) (by decide), rkm1 7 (by decide) (by decide)]
          exact ⟨h5z j hj, (hMN.2.1 j hj).2⟩
        · have hk9 : ¬ (pu_fin Z.T Z.q).k j = 0 := hk
          show m93.aI (B 9) j = nI ((pu_fin Z.T Z.q).h j)
          rw [fr1] at hk9
          rw [fr5, k93, rkm1 9 (by decide) (by decide)]
          exact hMN.2.2 j hj hk9
        · rw [k93, rkm1 16 (by decide) (by decide)]
          exact hMB j hj
        · rw [k93, h12 j hj, if_pos hj]
          rfl
      · have hk : k < n := sp_nlt hb9 (by omega)
        obtain ⟨n1, n2, n3, n4, n5, -⟩ := hMN.1 k hk
        have hck := pu_ct_le (fun q => Z.T.g q = 0 ∧ Z.T.k q = 0 ∧ ¬ (pu_fin Z.T Z.q).s q = 0) k
        have e12 : m1.aI (B 12) k = (pu_last Z.q k).getD (-1) := by rw [h12 k hk, if_neg (by omega)]
        have e5 : m1.aI (B 5) k = Z.T.s k := by rw [h5 k hk, if_neg (by omega)]
        have e7 : m1.aI (B 7) k = Z.T.g k := (congrFun (rkm1 7 (by decide) (by decide)) k).trans n4
        have e4 : m1.aI (B 4) k = Z.T.k k := (congrFun (rkm1 4 (by decide) (by decide)) k).trans n1
        refine sp_aload_n X (pc := 12) (r := some (B 0)) dX12_finish_12 rfl rfl ?_
        refine sp_getfield X (pc := 13) (c := 13) (i := 12) (t := 2) (a := (B 0)) (v := va_rf (some (B 12))) rfl hVm1.r.o (by decide) rfl (congrArg va_rf hVm1.f12) fl_Mo_38 dX12_finish_13 ?_
        refine sp_iload_n X (pc := 16) (x := nI k) dX12_finish_16 rfl rfl ?_
        refine sp_iaload X (pc := 17) (a := (B 12)) rfl (Or.inl hVm1.y12) (sp_in k hVm1.l12 (by omega) (by decide)) dX12_finish_17 ?_
        rw [show (m1.aI (B 12) (nI k).toNatClampNeg) = (m1.aI (B 12) k) from (congrArg _ (nI_clamp (n := k) (by omega)))]
        rw [show (m1.aI (B 12) k) = ((pu_last Z.q k).getD (-1)) from e12]
        refine sp_iconst X (pc := 18) (v := (-1)) dX12_finish_18 (by decide) ?_
        refine sp_icmp_eq X (pc := 19) (tgt := 50) dX12_finish_19 (by decide) (fun hb19 => ?_) (fun hb19 => ?_)
        · have hln : pu_last Z.q k = none := by
            cases hl : pu_last Z.q k with
            | none => rfl
            | some r =>
              rw [hl] at hb19
              have hb : r = -1 := hb19
              rcases hZW.2.1.last hl with z | z
              · rw [z] at hb; exact absurd hb (by decide)
              · rw [z] at hb; exact absurd hb (by decide)
          first
            | exact cut50 _ rkm1 hVm49 hk c5 c5z c12 c7 c4 trivial trivial
            | exact cut50 m1 rkm1 hVm1 hk (fun j hj => by
                rw [h5 j hj]
                by_cases q : j = k
                · subst q
                  rw [if_neg (by omega), if_pos (by omega), hln]
                  rfl
                · by_cases w : j < k
                  · rw [if_pos w, if_pos (by omega)]
                  · rw [if_neg w, if_neg (by omega)]) h5z (fun j hj => by
                rw [h12 j hj]
                by_cases q : j = k
                · subst q
                  rw [if_neg (by omega), if_pos (by omega), hln]
                  rfl
                · by_cases w : j < k
                  · rw [if_pos w, if_pos (by omega)]
                  · rw [if_neg w, if_neg (by omega)]) e7 e4 trivial trivial
        · obtain ⟨r, hl⟩ : ∃ r, pu_last Z.q k = some r := by
            cases hl : pu_last Z.q k with
            | none => rw [hl] at hb19; exact absurd rfl hb19
            | some r => exact ⟨r, rfl⟩
          have hr01 := hZW.2.1.last hl
          refine sp_aload_n X (pc := 22) (r := some (B 0)) dX12_finish_22 rfl rfl ?_
          refine sp_getfield X (pc := 23) (c := 13) (i := 5) (t := 2) (a := (B 0)) (v := va_rf (some (B 5))) rfl hVm1.r.o (by decide) rfl (congrArg va_rf hVm1.f5) fl_Mo_16 dX12_finish_23 ?_
          refine sp_iload_n X (pc := 26) (x := nI k) dX12_finish_26 rfl rfl ?_
          refine sp_aload_n X (pc := 27) (r := some (B 0)) dX12_finish_27 rfl rfl ?_
          refine sp_getfield X (pc := 28) (c := 13) (i := 12) (t := 2) (a := (B 0)) (v := va_rf (some (B 12))) rfl hVm1.r.o (by decide) rfl (congrArg va_rf hVm1.f12) fl_Mo_38 dX12_finish_28 ?_
          refine sp_iload_n X (pc := 31) (x := nI k) dX12_finish_31 rfl rfl ?_
          refine sp_iaload X (pc := 32) (a := (B 12)) rfl (Or.inl hVm1.y12) (sp_in k hVm1.l12 (by omega) (by decide)) dX12_finish_32 ?_
          rw [show (m1.aI (B 12) (nI k).toNatClampNeg) = (m1.aI (B 12) k) from (congrArg _ (nI_clamp (n := k) (by omega)))]
          rw [show (m1.aI (B 12) k) = ((pu_last Z.q k).getD (-1)) from e12]
          refine sp_iconst X (pc := 33) (v := 1) dX12_finish_33 (by decide) ?_
          refine sp_icmp_ne X (pc := 34) (tgt := 41) dX12_finish_34 (by decide) (fun hb34 => ?_) (fun hb34 => ?_)
          · refine sp_iconst X (pc := 41) (v := 0) dX12_finish_41 (by decide) ?_
            refine sp_bastore X (pc := 42) (a := (B 5)) rfl hVm1.y5 (sp_in k hVm1.l5 (by omega) (by decide)) rfl dX12_finish_42 ?_
            rw [show (nI k).toNatClampNeg = k from (nI_clamp (n := k) (by omega))]
            obtain ⟨m42, hm42⟩ : ∃ xm, xm = (m1.sI (B 5) k 0) := ⟨_, rfl⟩
            rw [← hm42]
            have hVm42 : sp_V B m0 m42 D R l0 l1 d n b p t e n ws vq vm vl vs vA vE := by
              rw [hm42]
              exact hVm1.sI 5 k _ (by decide) (by decide) (Nat.zero_le _)
            have rkm42 : sp_rk B [5, 12] m m42 := by
              rw [hm42]
              exact rkm1.sI hVm1.r 5 _ _ (by decide) (by decide)
            have a5 : ∀ j, j < n → m42.aI (B 5) j = (if j < k + 1 then (pu_last Z.q j).getD (Z.T.s j) else Z.T.s j) := by
              rw [hm42]
              intro j hj
              rw [sp_sI_aI]
              by_cases q : j = k
              · subst q
                rw [if_pos ⟨rfl, rfl⟩, if_pos (by omega), hl]
                rw [hl] at hb34
                first
                  | exact (show r = 1 from hb34).symm
                  | (show (0 : Int32) = r
                     rcases hr01 with z | z
                     · exact z.symm
                     · exact absurd z hb34)
              · rw [if_neg (fun z => q z.2), h5 j hj]
                by_cases w : j < k
                · rw [if_pos w, if_pos (by omega)]
                · rw [if_neg w, if_neg (by omega)]
            have a5z : ∀ j, n ≤ j → m42.aI (B 5) j = 0 := by
              rw [hm42]
              intro j hj
              rw [sp_sI_aI, if_neg (by omega)]; exact h5z j hj
            have a12 : m42.aI (B 12) = m1.aI (B 12) := by
              rw [hm42]
              funext i
              rw [sp_sI_aI, if_neg (fun z => hVm1.ne 12 5 (by decide) (by decide) (by decide) z.1)]
            clear hm42
            refine sp_aload_n X (pc := 43) (r := some (B 0)) dX12_finish_43 rfl rfl ?_
            refine sp_getfield X (pc := 44) (c := 13) (i := 12) (t := 2) (a := (B 0)) (v := va_rf (some (B 12))) rfl hVm42.r.o (by decide) rfl (congrArg va_rf hVm42.f12) fl_Mo_38 dX12_finish_44 ?_
            refine sp_iload_n X (pc := 47) (x := nI k) dX12_finish_47 rfl rfl ?_
            refine sp_iconst X (pc := 48) (v := (-1)) dX12_finish_48 (by decide) ?_
            refine sp_iastore X (pc := 49) (a := (B 12)) rfl hVm42.y12 (sp_in k hVm42.l12 (by omega) (by decide))  dX12_finish_49 ?_
            rw [show (nI k).toNatClampNeg = k from (nI_clamp (n := k) (by omega))]
            obtain ⟨m49, hm49⟩ : ∃ xm, xm = (m42.sI (B 12) k (-1)) := ⟨_, rfl⟩
            rw [← hm49]
            have hVm49 : sp_V B m0 m49 D R l0 l1 d n b p t e n ws vq vm vl vs vA vE := by
              rw [hm49]
              exact hVm42.sI 12 k _ (by decide) (by decide) (Nat.zero_le _)
            have rkm49 : sp_rk B [5, 12] m m49 := by
              rw [hm49]
              exact rkm42.sI hVm42.r 12 _ _ (by decide) (by decide)
            have c5 : ∀ j, j < n → m49.aI (B 5) j = (if j < k + 1 then (pu_last Z.q j).getD (Z.T.s j) else Z.T.s j) := by
              rw [hm49]
              intro j hj
              rw [sp_sI_aI, if_neg (fun z => hVm42.ne 5 12 (by decide) (by decide) (by decide) z.1)]; exact a5 j hj
            have c5z : ∀ j, n ≤ j → m49.aI (B 5) j = 0 := by
              rw [hm49]
              intro j hj
              rw [sp_sI_aI, if_neg (fun z => hVm42.ne 5 12 (by decide) (by decide) (by decide) z.1)]; exact a5z j hj
            have c12 : ∀ j, j < n → m49.aI (B 12) j = (if j < k + 1 then -1 else (pu_last Z.q j).getD (-1)) := by
              rw [hm49]
              intro j hj
              rw [sp_sI_aI]
              by_cases q : j = k
              · subst q
                rw [if_pos ⟨rfl, rfl⟩, if_pos (by omega)]
              · rw [if_neg (fun z => q z.2), a12, h12 j hj]
                by_cases w : j < k
                · rw [if_pos w, if_pos (by omega)]
                · rw [if_neg w, if_neg (by omega)]
            have c7 : m49.aI (B 7) k = Z.T.g k := by
              rw [hm49]
              rw [sp_sI_aI, if_neg (fun z => hVm42.ne 7 12 (by decide) (by decide) (by decide) z.1)]; exact (congrFun (rkm42 7 (by decide) (by decide)) k).trans n4
            have c4 : m49.aI (B 4) k = Z.T.k k := by
              rw [hm49]
              rw [sp_sI_aI, if_neg (fun z => hVm42.ne 4 12 (by decide) (by decide) (by decide) z.1)]; exact (congrFun (rkm42 4 (by decide) (by decide)) k).trans n1
            clear hm49
            first
              | exact cut50 _ rkm49 hVm49 hk c5 c5z c12 c7 c4 trivial trivial
              | exact cut50 m1 rkm49 hVm1 hk (fun j hj => by
                  rw [h5 j hj]
                  by_cases q : j = k
                  · subst q
                    rw [if_neg (by omega), if_pos (by omega), hln]
                    rfl
                  · by_cases w : j < k
                    · rw [if_pos w, if_pos (by omega)]
                    · rw [if_neg w, if_neg (by omega)]) h5z (fun j hj => by
                  rw [h12 j hj]
                  by_cases q : j = k
                  · subst q
                    rw [if_neg (by omega), if_pos (by omega), hln]
                    rfl
                  · by_cases w : j < k
                    · rw [if_pos w, if_pos (by omega)]
                    · rw [if_neg w, if_neg (by omega)]) e7 e4 trivial trivial
          · refine sp_iconst X (pc := 37) (v := 1) dX12_finish_37 (by decide) ?_
            refine sp_goto X (pc := 38) (tgt := 42) dX12_finish_38 (by decide) ?_
            refine sp_bastore X (pc := 42) (a := (B 5)) rfl hVm1.y5 (sp_in k hVm1.l5 (by omega) (by decide)) rfl dX12_finish_42 ?_
            rw [show (nI k).toNatClampNeg = k from (nI_clamp (n := k) (by omega))]
            obtain ⟨m42, hm42⟩ : ∃ xm, xm = (m1.sI (B 5) k 1) := ⟨_, rfl⟩
            rw [← hm42]
            have hVm42 : sp_V B m0 m42 D R l0 l1 d n b p t e n ws vq vm vl vs vA vE := by
              rw [hm42]
              exact hVm1.sI 5 k _ (by decide) (by decide) (Nat.zero_le _)
            have rkm42 : sp_rk B [5, 12] m m42 := by
              rw [hm42]
              exact rkm1.sI hVm1.r 5 _ _ (by decide) (by decide)
            have a5 : ∀ j, j < n → m42.aI (B 5) j = (if j < k + 1 then (pu_last Z.q j).getD (Z.T.s j) else Z.T.s j) := by
              rw [hm42]
              intro j hj
              rw [sp_sI_aI]
              by_cases q : j = k
              · subst q
                rw [if_pos ⟨rfl, rfl⟩, if_pos (by omega), hl]
                rw [hl] at hb34
                first
                  | exact (show r = 1 from hb34).symm
                  | (show (0 : Int32) = r
                     rcases hr01 with z | z
                     · exact z.symm
                     · exact absurd z hb34)
              · rw [if_neg (fun z => q z.2), h5 j hj]
                by_cases w : j < k
                · rw [if_pos w, if_pos (by omega)]
                · rw [if_neg w, if_neg (by omega)]
            have a5z : ∀ j, n ≤ j → m42.aI (B 5) j = 0 := by
              rw [hm42]
              intro j hj
              rw [sp_sI_aI, if_neg (by omega)]; exact h5z j hj
            have a12 : m42.aI (B 12) = m1.aI (B 12) := by
              rw [hm42]
              funext i
              rw [sp_sI_aI, if_neg (fun z => hVm1.ne 12 5 (by decide) (by decide) (by decide) z.1)]
            clear hm42
            refine sp_aload_n X (pc := 43) (r := some (B 0)) dX12_finish_43 rfl rfl ?_
            refine sp_getfield X (pc := 44) (c := 13) (i := 12) (t := 2) (a := (B 0)) (v := va_rf (some (B 12))) rfl hVm42.r.o (by decide) rfl (congrArg va_rf hVm42.f12) fl_Mo_38 dX12_finish_44 ?_
            refine sp_iload_n X (pc := 47) (x := nI k) dX12_finish_47 rfl rfl ?_
            refine sp_iconst X (pc := 48) (v := (-1)) dX12_finish_48 (by decide) ?_
            refine sp_iastore X (pc := 49) (a := (B 12)) rfl hVm42.y12 (sp_in k hVm42.l12 (by omega) (by decide))  dX12_finish_49 ?_
            rw [show (nI k).toNatClampNeg = k from (nI_clamp (n := k) (by omega))]
            obtain ⟨m49, hm49⟩ : ∃ xm, xm = (m42.sI (B 12) k (-1)) := ⟨_, rfl⟩
            rw [← hm49]
            have hVm49 : sp_V B m0 m49 D R l0 l1 d n b p t e n ws vq vm vl vs vA vE := by
              rw [hm49]
              exact hVm42.sI 12 k _ (by decide) (by decide) (Nat.zero_le _)
            have rkm49 : sp_rk B [5, 12] m m49 := by
              rw [hm49]
              exact rkm42.sI hVm42.r 12 _ _ (by decide) (by decide)
            have c5 : ∀ j, j < n → m49.aI (B 5) j = (if j < k + 1 then (pu_last Z.q j).getD (Z.T.s j) else Z.T.s j) := by
              rw [hm49]
              intro j hj
              rw [sp_sI_aI, if_neg (fun z => hVm42.ne 5 12 (by decide) (by decide) (by decide) z.1)]; exact a5 j hj
            have c5z : ∀ j, n ≤ j → m49.aI (B 5) j = 0 := by
              rw [hm49]
              intro j hj
              rw [sp_sI_aI, if_neg (fun z => hVm42.ne 5 12 (by decide) (by decide) (by decide) z.1)]; exact a5z j hj
            have c12 : ∀ j, j < n → m49.aI (B 12) j = (if j < k + 1 then -1 else (pu_last Z.q j).getD (-1)) := by
              rw [hm49]
              intro j hj
              rw [sp_sI_aI]
              by_cases q : j = k
              · subst q
                rw [if_pos ⟨rfl, rfl⟩, if_pos (by omega)]
              · rw [if_neg (fun z => q z.2), a12, h12 j hj]
                by_cases w : j < k
                · rw [if_pos w, if_pos (by omega)]
                · rw [if_neg w, if_neg (by omega)]
            have c7 : m49.aI (B 7) k = Z.T.g k := by
              rw [hm49]
              rw [sp_sI_aI, if_neg (fun z => hVm42.ne 7 12 (by decide) (by decide) (by decide) z.1)]; exact (congrFun (rkm42 7 (by decide) (by decide)) k).trans n4
            have c4 : m49.aI (B 4) k = Z.T.k k := by
              rw [hm49]
              rw [sp_sI_aI, if_neg (fun z => hVm42.ne 4 12 (by decide) (by decide) (by decide) z.1)]; exact (congrFun (rkm42 4 (by decide) (by decide)) k).trans n1
            clear hm49
            first
              | exact cut50 _ rkm49 hVm49 hk c5 c5z c12 c7 c4 trivial trivial
              | exact cut50 m1 rkm49 hVm1 hk (fun j hj => by
                  rw [h5 j hj]
                  by_cases q : j = k
                  · subst q
                    rw [if_neg (by omega), if_pos (by omega), hln]
                    rfl
                  · by_cases w : j < k
                    · rw [if_pos w, if_pos (by omega)]
                    · rw [if_neg w, if_neg (by omega)]) h5z (fun j hj => by
                  rw [h12 j hj]
                  by_cases q : j = k
                  · subst q
                    rw [if_neg (by omega), if_pos (by omega), hln]
                    rfl
                  · by_cases w : j < k
                    · rw [if_pos w, if_pos (by omega)]
                    · rw [if_neg w, if_neg (by omega)]) e7 e4 trivial trivial
  refine sp_pick X [2, 1, 0] (lv' := [(0, false, va_rf (some (B 0))), (1, false, .int 0), (2, false, .int 0)]) rfl ?_
  exact loop4 _ 0 _ rkm hVm (Nat.zero_le _) (fun j hj => by rw [if_neg (Nat.not_lt_zero _)]; exact (hMN.1 j hj).2.1) (fun j hj => (hMN.2.1 j hj).1) (fun j hj => by rw [if_neg (Nat.not_lt_zero _)]; exact hMQ j hj) rfl
