
/-! the pile of links -/
def sp_Qp (m : sp_M) (B : Nat → Nat) (t tp : Nat) : Prop := m.fI 870 (B 0) = nI tp ∧ tp ≤ 24 ∧ ∀ k, k < tp → (∃ q, m.aI (B 36) k = nI q ∧ q < t) ∧ (∃ z, m.aI (B 37) k = nI z ∧ z ≤ 40)
def sp_ps (m : sp_M) (B : Nat → Nat) : Nat → Nat
  | 0 => 0
  | k + 1 => sp_ps m B k + (42 - (m.aI (B 37) k).toNatClampNeg)
theorem sp_ps_congr {m m' : sp_M} {B : Nat → Nat} : ∀ {tp : Nat}, (∀ k, k < tp → m'.aI (B 37) k = m.aI (B 37) k) → sp_ps m' B tp = sp_ps m B tp
  | 0, _ => rfl
  | k + 1, h => by
    show sp_ps m' B k + _ = sp_ps m B k + _
    rw [sp_ps_congr (fun j hj => h j (by omega)), h k (by omega)]
theorem sp_ps_row {m m' : sp_M} {B : Nat → Nat} (h : m'.aI (B 37) = m.aI (B 37)) (tp : Nat) : sp_ps m' B tp = sp_ps m B tp := sp_ps_congr (fun k _ => congrFun h k)
theorem sp_ps_set {m : sp_M} {B : Nat → Nat} {j z c : Nat} (hz : m.aI (B 37) j = nI z) (hzc : z < c) (hc : c ≤ 41) : ∀ {tp : Nat}, j < tp → sp_ps (m.sI (B 37) j (nI c)) B tp < sp_ps m B tp
  | 0, h => by omega
  | k + 1, h => by
    show sp_ps _ B k + (42 - ((m.sI (B 37) j (nI c)).aI (B 37) k).toNatClampNeg) < sp_ps m B k + (42 - (m.aI (B 37) k).toNatClampNeg)
    by_cases hk : j = k
    · subst hk
      rw [sp_sI_aI, if_pos ⟨rfl, rfl⟩, hz, nI_clamp (by omega), nI_clamp (by omega), sp_ps_congr (m := m) (fun q hq => by rw [sp_sI_aI, if_neg (by omega)])]
      omega
    · rw [sp_sI_aI, if_neg (by omega)]
      have := sp_ps_set hz hzc hc (tp := k) (by omega)
      omega
theorem sp_Qp.wd {m m1 : sp_M} {B : Nat → Nat} {t tp : Nat} (h : sp_Qp m B t tp) (hwd : sp_wd B m m1) (hR : sp_R0 m B) : sp_Qp m1 B t tp := by
  refine ⟨(hwd.1 870 (by decide)).trans h.1, h.2.1, fun k hk => ?_⟩
  rw [hwd.2 _ (fun z => absurd (hR.ap 36 34 (by decide) (by decide) z) (by decide)), hwd.2 _ (fun z => absurd (hR.ap 37 34 (by decide) (by decide) z) (by decide))]
  exact h.2.2 k hk
theorem sp_Qp.pl {m : sp_M} {B : Nat → Nat} {t tp : Nat} (h : sp_Qp m B t tp) (hR : sp_R0 m B) (j : Nat) {c : Nat} (hc : c ≤ 40) : sp_Qp (m.sI (B 37) j (nI c)) B t tp := by
  refine ⟨h.1, h.2.1, fun k hk => ⟨?_, ?_⟩⟩
  · rw [sp_sI_aI, if_neg (fun z => absurd (hR.ap 36 37 (by decide) (by decide) z.1) (by decide))]
    exact (h.2.2 k hk).1
  · rw [sp_sI_aI]
    split
    · exact ⟨c, rfl, hc⟩
    · exact (h.2.2 k hk).2
theorem sp_Qp.pop {m : sp_M} {B : Nat → Nat} {t tp : Nat} (h : sp_Qp m B t tp) {c : Nat} (hc : c ≤ tp) : sp_Qp (m.pI 870 (B 0) (nI c)) B t c :=
  ⟨by rw [sp_pI_fI, if_pos ⟨rfl, rfl⟩], by have := h.2.1; omega, fun k hk => h.2.2 k (by omega)⟩
theorem sp_Qp.pop2 {m : sp_M} {B : Nat → Nat} {t tp : Nat} (h : sp_Qp m B t tp) (hR : sp_R0 m B) (v : Int32) : sp_Qp ((m.sI (B 37) (tp - 1) v).pI 870 (B 0) (nI (tp - 1))) B t (tp - 1) := by
  refine ⟨by rw [sp_pI_fI, if_pos ⟨rfl, rfl⟩], by have := h.2.1; omega, fun k hk => ?_⟩
  show (∃ q, (m.sI (B 37) (tp - 1) v).aI (B 36) k = nI q ∧ q < t) ∧ (∃ z, (m.sI (B 37) (tp - 1) v).aI (B 37) k = nI z ∧ z ≤ 40)
  rw [sp_sI_aI, if_neg (by omega), sp_sI_aI, if_neg (by omega)]
  exact h.2.2 k (by omega)
theorem sp_ps_le {m : sp_M} {B : Nat → Nat} {c tp : Nat} (h : c ≤ tp) : sp_ps m B c ≤ sp_ps m B tp := by
  induction tp with
  | zero => rw [Nat.le_zero.mp h]; exact Nat.le_refl _
  | succ k ih =>
    by_cases q : c ≤ k
    · exact Nat.le_trans (ih q) (Nat.le_add_right _ _)
    · rw [show c = k + 1 by omega]; exact Nat.le_refl _
theorem sp_Qp.push {m : sp_M} {B : Nat → Nat} {t tp : Nat} (h : sp_Qp m B t tp) (hR : sp_R0 m B) {q : Nat} (hq : q < t) (ht : tp < 24) : sp_Qp (((m.sI (B 36) tp (nI q)).sI (B 37) tp 0).pI 870 (B 0) (nI (tp + 1))) B t (tp + 1) ∧ sp_ps (((m.sI (B 36) tp (nI q)).sI (B 37) tp 0).pI 870 (B 0) (nI (tp + 1))) B (tp + 1) = sp_ps m B tp + 42 := by
  have n1 : B 36 ≠ B 37 := fun z => absurd (hR.ap 36 37 (by decide) (by decide) z) (by decide)
  have e36 : ∀ k, (((m.sI (B 36) tp (nI q)).sI (B 37) tp 0).pI 870 (B 0) (nI (tp + 1))).aI (B 36) k = if k = tp then nI q else m.aI (B 36) k := fun k => by
    show ((m.sI (B 36) tp (nI q)).sI (B 37) tp 0).aI (B 36) k = _
    rw [sp_sI_aI, if_neg (fun z => n1 z.1), sp_sI_aI]
    by_cases hk : k = tp
    · rw [if_pos ⟨rfl, hk⟩, if_pos hk]
    · rw [if_neg (fun z => hk z.2), if_neg hk]
  have e37 : ∀ k, (((m.sI (B 36) tp (nI q)).sI (B 37) tp 0).pI 870 (B 0) (nI (tp + 1))).aI (B 37) k = if k = tp then nI 0 else m.aI (B 37) k := fun k => by
    show ((m.sI (B 36) tp (nI q)).sI (B 37) tp 0).aI (B 37) k = _
    rw [sp_sI_aI]
    by_cases hk : k = tp
    · rw [if_pos ⟨rfl, hk⟩, if_pos hk]; rfl
    · rw [if_neg (fun z => hk z.2), if_neg hk, sp_sI_aI, if_neg (fun z => n1 z.1.symm)]
  refine ⟨⟨by rw [sp_pI_fI, if_pos ⟨rfl, rfl⟩], by omega, fun k hk => ?_⟩, ?_⟩
  · rw [e36, e37]
    by_cases hk2 : k = tp
    · rw [if_pos hk2, if_pos hk2]
      exact ⟨⟨q, rfl, hq⟩, ⟨0, rfl, by omega⟩⟩
    · rw [if_neg hk2, if_neg hk2]
      exact h.2.2 k (by omega)
  · show sp_ps _ B tp + _ = _
    rw [sp_ps_congr (m := m) (fun k hk => by rw [e37, if_neg (by omega)]), e37, if_pos rfl, nI_clamp (by omega)]
theorem sp_nn1 {j : Nat} (h : j < 2 ^ 31) : ¬ nI j = -1 := fun z => absurd (show nI j < 0 by rw [z]; decide) (nI_pos h)

abbrev pu_D (TT : Nat → List Int32) (q : Nat) : Nat → Int32 := fun i => (TT q).getD i 0
/-- the pile: what is left of each target, the last on top -/
def sp_pl (m : sp_M) (B : Nat → Nat) (R : Int32) (TT : Nat → List Int32) (t : Nat) : Nat → List (List Int32) → Prop
  | 0, r => r = []
  | k + 1, r => ∃ q z ls r', m.aI (B 36) k = nI q ∧ q < t ∧ m.aI (B 37) k = nI z ∧ z ≤ (TT q).length ∧ sp_TR (pu_D TT q) R (TT q).length z ls ∧ r = ls.map (sp_nme (pu_D TT q)) ++ r' ∧ sp_pl m B R TT t k r'
theorem sp_pl.congr {m m' : sp_M} {B : Nat → Nat} {R : Int32} {TT : Nat → List Int32} {t : Nat} : ∀ {k : Nat} {r : List (List Int32)}, (∀ i, i < k → m'.aI (B 36) i = m.aI (B 36) i ∧ m'.aI (B 37) i = m.aI (B 37) i) → sp_pl m B R TT t k r → sp_pl m' B R TT t k r
  | 0, _, _, h => h
  | k + 1, r, hc, ⟨q, z, ls, r', a1, a2, a3, a4, a5, a6, a7⟩ => ⟨q, z, ls, r', by rw [(hc k (by omega)).1]; exact a1, a2, by rw [(hc k (by omega)).2]; exact a3, a4, a5, a6, sp_pl.congr (fun i hi => hc i (by omega)) a7⟩
theorem sp_pl.rows {m m' : sp_M} {B : Nat → Nat} {R : Int32} {TT : Nat → List Int32} {t k : Nat} {r : List (List Int32)} (h6 : m'.aI (B 36) = m.aI (B 36)) (h7 : m'.aI (B 37) = m.aI (B 37)) (h : sp_pl m B R TT t k r) : sp_pl m' B R TT t k r := h.congr (fun i _ => ⟨congrFun h6 i, congrFun h7 i⟩)
theorem sp_TR.skip' {D : Nat → Int32} {R : Int32} {N a r : Nat} {l : List (Nat × Nat)} (hr : sp_RN D R N a r) (hw : ¬ sp_wkk D a r) (h : sp_TR D R N a l) : sp_TR D R N (a + r + 1) l := by
  by_cases ha : a < N
  · have key : ∀ o, sp_NP D R N a o → sp_NP D R N (a + r + 1) o := fun o ho => by
      rcases ho.inv with ⟨z, -⟩ | ⟨r', -, z1, -, z2⟩ | ⟨r', -, z1, z2, -⟩
      · exact absurd ha z
      · obtain rfl := hr.det z1
        exact z2
      · obtain rfl := hr.det z1
        exact absurd z2 hw
    cases l with
    | nil => exact key _ h
    | cons x l => exact ⟨key _ h.1, h.2⟩
  · rw [h.over ha]
    exact sp_TR.end_ (by omega)
theorem sp_TR.hit' {D : Nat → Int32} {R : Int32} {N a r : Nat} {l : List (Nat × Nat)} (hr : sp_RN D R N a r) (hw : sp_wkk D a r) (h : sp_TR D R N a l) : ∃ l', l = (a + r + 1, r) :: l' ∧ sp_TR D R N (a + r + 1) l' :=
  h.i1 (sp_NP.hit (by have := hr.1; have := hw.1; omega) hr hw)
/-- nothing is left if nothing is left of any target -/
theorem sp_pl.ent {m : sp_M} {B : Nat → Nat} {R : Int32} {TT : Nat → List Int32} {t : Nat} : ∀ {k : Nat} {r : List (List Int32)}, sp_pl m B R TT t k r → ∀ i, i < k → ∃ q z ls, m.aI (B 36) i = nI q ∧ q < t ∧ m.aI (B 37) i = nI z ∧ z ≤ (TT q).length ∧ sp_TR (pu_D TT q) R (TT q).length z ls ∧ (r = [] → ls = [])
  | 0, _, _, i, hi => absurd hi (Nat.not_lt_zero _)
  | k + 1, r, ⟨q, z, ls, r', a1, a2, a3, a4, a5, a6, a7⟩, i, hi => by
    by_cases e : i = k
    · subst e
      exact ⟨q, z, ls, a1, a2, a3, a4, a5, fun w => by rw [a6] at w; exact List.map_eq_nil_iff.mp (List.append_eq_nil_iff.mp w).1⟩
    · obtain ⟨q2, z2, ls2, b1, b2, b3, b4, b5, b6⟩ := sp_pl.ent a7 i (by omega)
      exact ⟨q2, z2, ls2, b1, b2, b3, b4, b5, fun w => b6 (by rw [a6] at w; exact (List.append_eq_nil_iff.mp w).2)⟩
theorem sp_pl.none {m : sp_M} {B : Nat → Nat} {R : Int32} {TT : Nat → List Int32} {t : Nat} (ht : t ≤ 40) (hTl : pu_Tt t TT) : ∀ {k : Nat} {r : List (List Int32)}, sp_pl m B R TT t k r → (∀ i q z ls, i < k → m.aI (B 36) i = nI q → q < t → m.aI (B 37) i = nI z → z ≤ (TT q).length → sp_TR (pu_D TT q) R (TT q).length z ls → ls = []) → r = []
  | 0, _, h, _ => h
  | k + 1, r, ⟨q, z, ls, r', a1, a2, a3, a4, a5, a6, a7⟩, hn => by
    rw [a6, hn k q z ls (by omega) a1 a2 a3 a4 a5, sp_pl.none ht hTl a7 (fun i q z ls hi => hn i q z ls (by omega))]
    rfl
def pu_TU (R : Int32) (t : Nat) (TT : Nat → List Int32) : Prop := ∀ q, q < t → sp_us (pu_D TT q) R (TT q).length (pu_tp R TT q)
set_option maxHeartbeats 2000000 in
set_option maxRecDepth 20000 in
theorem c_Mo_nextWord (l : Launch) (G : sp_G) (m : sp_M) {B : Nat → Nat} {m0 : sp_M} {D : Nat → Int32} {R : Int32} {l0 l1 : Int64} {d n b p t e L ws : Nat} {vq vm vl : Int32} {vs : Int64} {vA vE : Nat → Int64} (hVm : sp_V B m0 m D R l0 l1 d n b p t e L ws vq vm vl vs vA vE)  {TT : Nat → List Int32} (hMT : sp_mT m B t TT) (hTl : pu_Tt t TT) {tp : Nat} {r9 : List (List Int32)} (hQ : sp_Qp m B t tp) (hpl : sp_pl m B R TT t tp r9) : sp_C l G M_Mo_nextWord 0 0 [.ref (B 0)] m (sp_oI fun v m' => ∃ w' tp', sp_V B m0 m' D R l0 l1 d n b p t e L w' vq vm vl vs vA vE ∧ sp_Qp m' B t tp' ∧ sp_rk B [34, 36, 37] m m' ∧ tp' ≤ tp ∧ sp_b01 v ∧ (v = 1 → sp_ps m' B tp' < sp_ps m B tp) ∧ (v = 0 → r9 = []) ∧ (v = 1 → ∃ u9 r8, r9 = u9 :: r8 ∧ sp_pl m' B R TT t tp' r8 ∧ sp_wu m' B w' = u9 ∧ 1 ≤ w')) := by
  refine sp_enter (lv0 := [(0, false, va_rf (some (B 0)))]) "SafePathsModel" false rfl (by decide) (fun h => by cases h) (Nat.le_of_ble_eq_true rfl) rfl ?_
  intro w X
  have bd := hVm.hd
  have bn := hVm.hn
  have bb := hVm.hb
  have bp := hVm.hp
  have bt := hVm.ht
  have be := hVm.he
  have bw := hVm.hw
  have bL := hVm.hL
  have loop0 : ∀ (dz : Nat) (w1 tp1 : Nat) (m1 : sp_M), sp_V B m0 m1 D R l0 l1 d n b p t e L w1 vq vm vl vs vA vE → sp_Qp m1 B t tp1 → sp_rk B [34, 36, 37] m m1 → tp1 ≤ tp → sp_ps m1 B tp1 ≤ sp_ps m B tp → sp_pl m1 B R TT t tp1 r9 → sp_ps m1 B tp1 = dz → w 0 0 m1 0 [(0, false, va_rf (some (B 0)))] [] := by
    intro dz
    induction dz using Nat.strongRecOn with
    | ind dz ih =>
      intro w1 tp1 m1 hVm1 hQ1 hr1 ht1 hs1 hpl1 hdz
      have ihA := ih
      refine sp_aload_n X (pc := 0) (r := some (B 0)) dX12_nextWord_0 rfl rfl ?_
      refine sp_getfield X (pc := 1) (c := 13) (i := 38) (t := 0) (a := (B 0)) (v := .int (nI tp1)) rfl hVm1.r.o (by decide) rfl (congrArg Value.int hQ1.1) fl_Mo_159 dX12_nextWord_1 ?_
      refine sp_if_le X (pc := 4) (tgt := 165) dX12_nextWord_4 (by decide) (fun hb4 => ?_) (fun hb4 => ?_)
      · have htp24 := hQ1.2.1
        have htp : tp1 = 0 := by
          have := sp_nge (b := tp1) (a := 0) hb4 (by omega) (by omega)
          omega
        refine sp_iconst X (pc := 165) (v := 0) dX12_nextWord_165 (by decide) ?_
        refine sp_ireturn X (pc := 166) dX12_nextWord_166 rfl ⟨_, rfl, ?_⟩
        exact ⟨_, _, hVm1, hQ1, hr1, ht1, Or.inl rfl, fun z => absurd z (by decide), fun _ => by rw [htp] at hpl1; exact hpl1, fun z => absurd z (by decide)⟩
      · have htp : 0 < tp1 := sp_nlt (b := tp1) (a := 0) hb4 (by have := hQ1.2.1; omega)
        have htp24 := hQ1.2.1
        obtain ⟨tp0, htp0⟩ : ∃ tp0, tp1 = tp0 + 1 := ⟨tp1 - 1, by omega⟩
        have hpl0 := hpl1
        rw [htp0] at hpl0
        obtain ⟨q, z, ls, rb, hq, hq1, hz, hz1, hTR, hr9, hplb⟩ := hpl0
        have hts1 := hTl q hq1
        have hq : m1.aI (B 36) (tp1 - 1) = nI q := by rw [htp0]; exact hq
        have hz : m1.aI (B 37) (tp1 - 1) = nI z := by rw [htp0]; exact hz
        have hMT1 := hMT.rk hr1 (by decide) (by decide)
        refine sp_aload_n X (pc := 7) (r := some (B 0)) dX12_nextWord_7 rfl rfl ?_
        refine sp_getfield X (pc := 8) (c := 13) (i := 36) (t := 2) (a := (B 0)) (v := va_rf (some (B 36))) rfl hVm1.r.o (by decide) rfl (congrArg va_rf hVm1.f36) fl_Mo_89 dX12_nextWord_8 ?_
        refine sp_aload_n X (pc := 11) (r := some (B 0)) dX12_nextWord_11 rfl rfl ?_
        refine sp_getfield X (pc := 12) (c := 13) (i := 38) (t := 0) (a := (B 0)) (v := .int (nI tp1)) rfl hVm1.r.o (by decide) rfl (congrArg Value.int hQ1.1) fl_Mo_159 dX12_nextWord_12 ?_
        refine sp_iconst X (pc := 15) (v := 1) dX12_nextWord_15 (by decide) ?_
        refine sp_isub X (pc := 16) dX12_nextWord_16 ?_
        rw [show ((nI tp1) - 1) = (nI (tp1 - 1)) from sp_sub (c := 1) (by omega)]
        refine sp_iaload X (pc := 17) (a := (B 36)) rfl (Or.inl hVm1.y36) (sp_in (tp1 - 1) hVm1.l36 (by omega) (by decide)) dX12_nextWord_17 ?_
        rw [show (m1.aI (B 36) (nI (tp1 - 1)).toNatClampNeg) = (m1.aI (B 36) (tp1 - 1)) from (congrArg _ (nI_clamp (n := (tp1 - 1)) (by omega)))]
        rw [show (m1.aI (B 36) (tp1 - 1)) = (nI q) from hq]
        refine sp_istore_n X (pc := 18) (lv' := [(1, false, .int (nI q)), (0, false, va_rf (some (B 0)))]) dX12_nextWord_18 rfl (by decide) rfl ?_
        refine sp_aload_n X (pc := 19) (r := some (B 0)) dX12_nextWord_19 rfl rfl ?_
        refine sp_getfield X (pc := 20) (c := 13) (i := 37) (t := 2) (a := (B 0)) (v := va_rf (some (B 37))) rfl hVm1.r.o (by decide) rfl (congrArg va_rf hVm1.f37) fl_Mo_92 dX12_nextWord_20 ?_
        refine sp_aload_n X (pc := 23) (r := some (B 0)) dX12_nextWord_23 rfl rfl ?_
        refine sp_getfield X (pc := 24) (c := 13) (i := 38) (t := 0) (a := (B 0)) (v := .int (nI tp1)) rfl hVm1.r.o (by decide) rfl (congrArg Value.int hQ1.1) fl_Mo_159 dX12_nextWord_24 ?_
        refine sp_iconst X (pc := 27) (v := 1) dX12_nextWord_27 (by decide) ?_
        refine sp_isub X (pc := 28) dX12_nextWord_28 ?_
        rw [show ((nI tp1) - 1) = (nI (tp1 - 1)) from sp_sub (c := 1) (by omega)]
        refine sp_iaload X (pc := 29) (a := (B 37)) rfl (Or.inl hVm1.y37) (sp_in (tp1 - 1) hVm1.l37 (by omega) (by decide)) dX12_nextWord_29 ?_
        rw [show (m1.aI (B 37) (nI (tp1 - 1)).toNatClampNeg) = (m1.aI (B 37) (tp1 - 1)) from (congrArg _ (nI_clamp (n := (tp1 - 1)) (by omega)))]
        rw [show (m1.aI (B 37) (tp1 - 1)) = (nI z) from hz]
        refine sp_istore_n X (pc := 30) (lv' := [(2, false, .int (nI z)), (1, false, .int (nI q)), (0, false, va_rf (some (B 0)))]) dX12_nextWord_30 rfl (by decide) rfl ?_
        have cut134 : ∀ (r tp9 : Nat) (m9 : sp_M), sp_V B m0 m9 D R l0 l1 d n b p t e L r vq vm vl vs vA vE → sp_Qp m9 B t tp9 → sp_rk B [34, 36, 37] m m9 → tp9 ≤ tp → sp_ps m9 B tp9 < sp_ps m1 B tp1 → sp_RN (pu_D TT q) R (TT q).length z r → (∀ i, i < r → m9.aI (B 34) i = (TT q).getD (z + i) 0) → (∀ l9, sp_TR (pu_D TT q) R (TT q).length (z + r + 1) l9 → sp_pl m9 B R TT t tp9 (l9.map (sp_nme (pu_D TT q)) ++ rb)) → w 0 0 m9 134 [(0, false, va_rf (some (B 0)))] [] := by
          intro r tp9 m9 hVm9 hQ9 hr99 ht9 hs9 hRN ww9 hp9
          have hzr := hRN.1
          refine sp_aload_n X (pc := 134) (r := some (B 0)) dX12_nextWord_134 rfl rfl ?_
          refine sp_getfield X (pc := 135) (c := 13) (i := 35) (t := 0) (a := (B 0)) (v := .int (nI r)) rfl hVm9.r.o (by decide) rfl (congrArg Value.int hVm9.cw) fl_Mo_107 dX12_nextWord_135 ?_
          refine sp_if_le X (pc := 138) (tgt := 162) dX12_nextWord_138 (by decide) (fun hb138 => ?_) (fun hb138 => ?_)
          · have hr0 : r = 0 := by
              have := sp_nge (b := r) (a := 0) hb138 (by omega) (by omega)
              omega
            have hwk : ¬ sp_wkk (pu_D TT q) z r := fun y => by have := y.1; omega
            refine sp_goto X (pc := 162) (tgt := 0) dX12_nextWord_162 (by decide) ?_
            exact ihA _ (by omega) _ _ _ hVm9 hQ9 hr99 ht9 (by omega) (by rw [hr9]; exact hp9 ls (hTR.skip' hRN hwk)) rfl
          · have hr0 : 0 < r := sp_nlt (b := r) (a := 0) hb138 (by omega)
            refine sp_aload_n X (pc := 141) (r := some (B 0)) dX12_nextWord_141 rfl rfl ?_
            refine sp_getfield X (pc := 142) (c := 13) (i := 35) (t := 0) (a := (B 0)) (v := .int (nI r)) rfl hVm9.r.o (by decide) rfl (congrArg Value.int hVm9.cw) fl_Mo_107 dX12_nextWord_142 ?_
            refine sp_iconst X (pc := 145) (v := 1) dX12_nextWord_145 (by decide) ?_
            refine sp_icmp_ne X (pc := 146) (tgt := 160) dX12_nextWord_146 (by decide) (fun hb146 => ?_) (fun hb146 => ?_)
            · have hwk : sp_wkk (pu_D TT q) z r := ⟨hr0, fun y => hb146 (by rw [y.1]; rfl)⟩
              refine sp_iconst X (pc := 160) (v := 1) dX12_nextWord_160 (by decide) ?_
              refine sp_ireturn X (pc := 161) dX12_nextWord_161 rfl ⟨_, rfl, ?_⟩
              obtain ⟨l8, e8, tr8⟩ := hTR.hit' hRN hwk
              refine ⟨_, _, hVm9, hQ9, hr99, ht9, Or.inr rfl, fun _ => by omega, fun y => absurd y (by decide), fun _ => ⟨sp_nme (pu_D TT q) (z + r + 1, r), _, by rw [hr9, e8]; rfl, hp9 l8 tr8, sp_wu_eq (by rw [sp_nme_len]) (fun i hi => ?_), hr0⟩⟩
              rw [ww9 i hi]
              show (TT q).getD (z + i) 0 = (sp_seg (pu_D TT q) (z + r + 1 - 1 - r) r).getD i 0
              rw [sp_seg_get _ _ _ hi, show z + r + 1 - 1 - r = z by omega]
            · have hr1e : r = 1 := sp_neq (b := 1) hb146 (by omega) (by omega)
              refine sp_aload_n X (pc := 149) (r := some (B 0)) dX12_nextWord_149 rfl rfl ?_
              refine sp_getfield X (pc := 150) (c := 13) (i := 34) (t := 2) (a := (B 0)) (v := va_rf (some (B 34))) rfl hVm9.r.o (by decide) rfl (congrArg va_rf hVm9.f34) fl_Mo_86 dX12_nextWord_150 ?_
              refine sp_iconst X (pc := 153) (v := 0) dX12_nextWord_153 (by decide) ?_
              refine sp_iaload X (pc := 154) (a := (B 34)) rfl (Or.inl hVm9.y34) (sp_in 0 hVm9.l34 (by omega) (by decide)) dX12_nextWord_154 ?_
              rw [show (m9.aI (B 34) (Int32.toNatClampNeg 0)) = (m9.aI (B 34) 0) from (congrArg _ (nI_clamp (n := 0) (by omega)))]
              rw [show (m9.aI (B 34) 0) = ((TT q).getD z 0) from (ww9 0 (by omega))]
              refine sp_bipush X (pc := 155) (v := 46) dX12_nextWord_155 (by decide) ?_
              refine sp_icmp_eq X (pc := 157) (tgt := 162) dX12_nextWord_157 (by decide) (fun hb157 => ?_) (fun hb157 => ?_)
              · have hwk : ¬ sp_wkk (pu_D TT q) z r := fun y => y.2 ⟨hr1e, hb157⟩
                refine sp_goto X (pc := 162) (tgt := 0) dX12_nextWord_162 (by decide) ?_
                exact ihA _ (by omega) _ _ _ hVm9 hQ9 hr99 ht9 (by omega) (by rw [hr9]; exact hp9 ls (hTR.skip' hRN hwk)) rfl
              · have hwk : sp_wkk (pu_D TT q) z r := ⟨hr0, fun y => hb157 y.2⟩
                refine sp_iconst X (pc := 160) (v := 1) dX12_nextWord_160 (by decide) ?_
                refine sp_ireturn X (pc := 161) dX12_nextWord_161 rfl ⟨_, rfl, ?_⟩
                obtain ⟨l8, e8, tr8⟩ := hTR.hit' hRN hwk
                refine ⟨_, _, hVm9, hQ9, hr99, ht9, Or.inr rfl, fun _ => by omega, fun y => absurd y (by decide), fun _ => ⟨sp_nme (pu_D TT q) (z + r + 1, r), _, by rw [hr9, e8]; rfl, hp9 l8 tr8, sp_wu_eq (by rw [sp_nme_len]) (fun i hi => ?_), hr0⟩⟩
                rw [ww9 i hi]
                show (TT q).getD (z + i) 0 = (sp_seg (pu_D TT q) (z + r + 1 - 1 - r) r).getD i 0
                rw [sp_seg_get _ _ _ hi, show z + r + 1 - 1 - r = z by omega]
        have cut100 : ∀ (r : Nat) (m2 : sp_M), sp_V B m0 m2 D R l0 l1 d n b p t e L r vq vm vl vs vA vE → sp_wd B m1 m2 → sp_RN (pu_D TT q) R (TT q).length z r → (∀ i, i < r → m2.aI (B 34) i = (TT q).getD (z + i) 0) → w 0 0 m2 100 [(0, false, va_rf (some (B 0))), (1, false, .int (nI q)), (2, false, .int (nI (z + r)))] [] := by
          intro r m2 hVm2 hwd2 hRN ww
          refine sp_aload_n X (pc := 100) (r := some (B 0)) dX12_nextWord_100 rfl rfl ?_
          refine sp_getfield X (pc := 101) (c := 13) (i := 37) (t := 2) (a := (B 0)) (v := va_rf (some (B 37))) rfl hVm2.r.o (by decide) rfl (congrArg va_rf hVm2.f37) fl_Mo_92 dX12_nextWord_101 ?_
          refine sp_aload_n X (pc := 104) (r := some (B 0)) dX12_nextWord_104 rfl rfl ?_
          refine sp_getfield X (pc := 105) (c := 13) (i := 38) (t := 0) (a := (B 0)) (v := .int (nI tp1)) rfl hVm2.r.o (by decide) rfl (congrArg Value.int ((hwd2.1 870 (by decide)).trans hQ1.1)) fl_Mo_159 dX12_nextWord_105 ?_
          refine sp_iconst X (pc := 108) (v := 1) dX12_nextWord_108 (by decide) ?_
          refine sp_isub X (pc := 109) dX12_nextWord_109 ?_
          rw [show ((nI tp1) - 1) = (nI (tp1 - 1)) from sp_sub (c := 1) (by omega)]
          refine sp_iload_n X (pc := 110) (x := nI (z + r)) dX12_nextWord_110 rfl rfl ?_
          refine sp_iconst X (pc := 111) (v := 1) dX12_nextWord_111 (by decide) ?_
          refine sp_iadd X (pc := 112) dX12_nextWord_112 ?_
          rw [show ((nI (z + r)) + 1) = (nI ((z + r) + 1)) from (nI_add (z + r) 1)]
          have hQ2 := hQ1.wd hwd2 hVm1.r
          have hzr := hRN.1
          have row6 : m2.aI (B 36) = m1.aI (B 36) := hwd2.2 _ (hVm2.ne 36 34 (by decide) (by decide) (by decide))
          have row7 : m2.aI (B 37) = m1.aI (B 37) := hwd2.2 _ (hVm2.ne 37 34 (by decide) (by decide) (by decide))
          refine sp_iastore X (pc := 113) (a := (B 37)) rfl hVm2.y37 (sp_in (tp1 - 1) hVm2.l37 (by omega) (by decide))  dX12_nextWord_113 ?_
          rw [show (nI (tp1 - 1)).toNatClampNeg = (tp1 - 1) from (nI_clamp (n := (tp1 - 1)) (by omega))]
          obtain ⟨m113, hm113⟩ : ∃ xm, xm = (m2.sI (B 37) (tp1 - 1) (nI ((z + r) + 1))) := ⟨_, rfl⟩
          rw [← hm113]
          have hVm113 : sp_V B m0 m113 D R l0 l1 d n b p t e L r vq vm vl vs vA vE := by
            rw [hm113]
            exact hVm2.sI 37 (tp1 - 1) _ (by decide) (by decide) (Nat.zero_le _)
          have t113 : m113.fI 870 (B 0) = nI tp1 := by
            rw [hm113]
            exact (hwd2.1 870 (by decide)).trans hQ1.1
          have hsx : sp_ps m113 B tp1 < sp_ps m1 B tp1 := by
            rw [hm113]
            rw [← sp_ps_row (m := m1) (m' := m2) row7 tp1]
            exact sp_ps_set (z := z) ((congrFun row7 _).trans hz) (by omega) (by omega) (by omega)
          have hrx : sp_rk B [34, 36, 37] m m113 := by
            rw [hm113]
            exact (hr1.trans ((sp_rk.wd hwd2 hVm1.r).mono (by decide))).sI hVm2.r 37 _ _ (by decide) (by decide)
          have hts2 : m113.aI (B 22) q = nI (TT q).length := by
            rw [hm113]
            rw [sp_sI_aI, if_neg (fun z => (hVm2.ne 22 37 (by decide) (by decide) (by decide)) z.1)]; exact ((hMT1.rk (sp_rk.wd hwd2 hVm1.r) (by decide) (by decide)) q hq1).1
          have w113 : ∀ i, i < r → m113.aI (B 34) i = (TT q).getD (z + i) 0 := by
            rw [hm113]
            intro i hi
            rw [sp_sI_aI, if_neg (fun z => (hVm2.ne 34 37 (by decide) (by decide) (by decide)) z.1)]; exact ww i hi
          have p113 : ∀ i, i < tp0 → m113.aI (B 36) i = m1.aI (B 36) i ∧ m113.aI (B 37) i = m1.aI (B 37) i := by
            rw [hm113]
            intro i hi
            rw [sp_sI_aI, if_neg (fun z => (hVm2.ne 36 37 (by decide) (by decide) (by decide)) z.1), sp_sI_aI, if_neg (by omega), row6, row7]
            exact ⟨rfl, rfl⟩
          have q113 : m113.aI (B 36) (tp1 - 1) = nI q := by
            rw [hm113]
            rw [sp_sI_aI, if_neg (fun z => (hVm2.ne 36 37 (by decide) (by decide) (by decide)) z.1), row6]; exact hq
          have z113 : m113.aI (B 37) (tp1 - 1) = nI (z + r + 1) := by
            rw [hm113]
            rw [sp_sI_aI, if_pos ⟨rfl, rfl⟩]
          refine sp_iload_n X (pc := 114) (x := nI (z + r)) dX12_nextWord_114 rfl rfl ?_
          refine sp_aload_n X (pc := 115) (r := some (B 0)) dX12_nextWord_115 rfl rfl ?_
          refine sp_getfield X (pc := 116) (c := 13) (i := 22) (t := 2) (a := (B 0)) (v := va_rf (some (B 22))) rfl hVm113.r.o (by decide) rfl (congrArg va_rf hVm113.f22) fl_Mo_57 dX12_nextWord_116 ?_
          refine sp_iload_n X (pc := 119) (x := nI q) dX12_nextWord_119 rfl rfl ?_
          refine sp_iaload X (pc := 120) (a := (B 22)) rfl (Or.inl hVm113.y22) (sp_in q hVm113.l22 (by omega) (by decide)) dX12_nextWord_120 ?_
          rw [show (m113.aI (B 22) (nI q).toNatClampNeg) = (m113.aI (B 22) q) from (congrArg _ (nI_clamp (n := q) (by omega)))]
          rw [show (m113.aI (B 22) q) = (nI (TT q).length) from hts2]
          refine sp_icmp_lt X (pc := 121) (tgt := 134) dX12_nextWord_121 (by decide) (fun hb121 => ?_) (fun hb121 => ?_)
          · have hlt3 : z + r < (TT q).length := (nI_ltI (by omega) (by omega)).mp hb121
            have hQx : sp_Qp m113 B t tp1 := by
              rw [hm113]
              exact hQ2.pl hVm2.r _ (by omega)
            refine sp_pick X [0] (lv' := [(0, false, va_rf (some (B 0)))]) rfl ?_
            first
              | exact cut134 r tp1 _ hVm113 hQx hrx ht1 hsx hRN w113 (fun l9 tr9 => by
                  have hpb := hplb.congr p113
                  rw [htp0]
                  exact ⟨q, z + r + 1, l9, rb, by rw [show tp0 = tp1 - 1 by omega]; exact q113, hq1, by rw [show tp0 = tp1 - 1 by omega]; exact z113, by omega, tr9, rfl, hpb⟩)
              | exact cut134 r (tp1 - 1) _ hVm131 hQ3 hr3 (by omega) hsx2 hRN (by rw [a131]; exact w113) (fun l9 tr9 => by
                  have hpb := hplb.congr p113
                  rw [tr9.over (by omega), show tp1 - 1 = tp0 by omega]
                  exact sp_pl.rows (by rw [a131]) (by rw [a131]) hpb)
          · have hlt3 : ¬ z + r < (TT q).length := fun y => hb121 (nI_lt y (by omega))
            refine sp_aload_n X (pc := 124) (r := some (B 0)) dX12_nextWord_124 rfl rfl ?_
            refine sp_dup X (pc := 125) dX12_nextWord_125 (sp_cat_rf _) ?_
            refine sp_getfield X (pc := 126) (c := 13) (i := 38) (t := 0) (a := (B 0)) (v := .int (nI tp1)) rfl hVm113.r.o (by decide) rfl (congrArg Value.int t113) fl_Mo_159 dX12_nextWord_126 ?_
            refine sp_iconst X (pc := 129) (v := 1) dX12_nextWord_129 (by decide) ?_
            refine sp_isub X (pc := 130) dX12_nextWord_130 ?_
            rw [show ((nI tp1) - 1) = (nI (tp1 - 1)) from sp_sub (c := 1) (by omega)]
            refine sp_putI X (pc := 131) (c := 13) (i := 38) (q := 870) (a := (B 0)) rfl hVm113.r.o (by decide) rfl rfl (Or.inl rfl) ⟨rfl, rfl⟩ fl_Mo_159 dX12_nextWord_131 ?_
            obtain ⟨m131, hm131⟩ : ∃ xm, xm = (m113.pI 870 (B 0) (nI (tp1 - 1))) := ⟨_, rfl⟩
            rw [← hm131]
            have hVm131 : sp_V B m0 m131 D R l0 l1 d n b p t e L r vq vm vl vs vA vE := by
              rw [hm131]
              exact hVm113.pI (k := 870) _ (by decide)
            have hsx2 : sp_ps m131 B (tp1 - 1) < sp_ps m1 B tp1 := by
              rw [hm131]
              exact Nat.lt_of_le_of_lt (Nat.le_trans (Nat.le_of_eq (sp_ps_row (m := m113) (m' := m113.pI 870 (B 0) (nI (tp1 - 1))) rfl _)) (sp_ps_le (by omega))) hsx
            have hQ3 : sp_Qp m131 B t (tp1 - 1) := by
              rw [hm131]
              rw [hm113]
              exact hQ2.pop2 hVm2.r _
            have hr3 : sp_rk B [34, 36, 37] m m131 := by
              rw [hm131]
              exact hrx
            have a131 : m131.aI = m113.aI := by
              rw [hm131]
              rfl
            clear hm131
            refine sp_pick X [0] (lv' := [(0, false, va_rf (some (B 0)))]) rfl ?_
            first
              | exact cut134 r tp1 _ hVm113 hQx hrx ht1 hsx hRN w113 (fun l9 tr9 => by
                  have hpb := hplb.congr p113
                  rw [htp0]
                  exact ⟨q, z + r + 1, l9, rb, by rw [show tp0 = tp1 - 1 by omega]; exact q113, hq1, by rw [show tp0 = tp1 - 1 by omega]; exact z113, by omega, tr9, rfl, hpb⟩)
              | exact cut134 r (tp1 - 1) _ hVm131 hQ3 hr3 (by omega) hsx2 hRN (by rw [a131]; exact w113) (fun l9 tr9 => by
                  have hpb := hplb.congr p113
                  rw [tr9.over (by omega), show tp1 - 1 = tp0 by omega]
                  exact sp_pl.rows (by rw [a131]) (by rw [a131]) hpb)
        refine sp_aload_n X (pc := 31) (r := some (B 0)) dX12_nextWord_31 rfl rfl ?_
        refine sp_iconst X (pc := 32) (v := 0) dX12_nextWord_32 (by decide) ?_
        refine sp_putI X (pc := 33) (c := 13) (i := 35) (q := 867) (a := (B 0)) rfl hVm1.r.o (by decide) rfl rfl (Or.inl rfl) ⟨rfl, rfl⟩ fl_Mo_107 dX12_nextWord_33 ?_
        obtain ⟨m33, hm33⟩ : ∃ xm, xm = (m1.pI 867 (B 0) 0) := ⟨_, rfl⟩
        rw [← hm33]
        have hVm33 : sp_V B m0 m33 D R l0 l1 d n b p t e L 0 vq vm vl vs vA vE := by
          rw [hm33]
          exact hVm1.pw 0 (by omega)
        have hwd33 : sp_wd B m1 m33 := by
          rw [hm33]
          exact (sp_wd.refl B m1).pI _
        clear hm33
        have loop36 : ∀ (dz : Nat) (r : Nat) (m2 : sp_M), sp_V B m0 m2 D R l0 l1 d n b p t e L r vq vm vl vs vA vE → sp_wd B m1 m2 → z + r ≤ (TT q).length → (∀ i, i < r → sp_pb R ((TT q).getD (z + i) 0) = 0) → (∀ i, i < r → m2.aI (B 34) i = (TT q).getD (z + i) 0) → 42 - r = dz → w 0 0 m2 36 [(0, false, va_rf (some (B 0))), (1, false, .int (nI q)), (2, false, .int (nI (z + r)))] [] := by
          intro dz
          induction dz using Nat.strongRecOn with
          | ind dz ih =>
            intro r m2 hVm2 hwd2 hzr hnp ww hdz
            refine sp_iload_n X (pc := 36) (x := nI (z + r)) dX12_nextWord_36 rfl rfl ?_
            refine sp_aload_n X (pc := 37) (r := some (B 0)) dX12_nextWord_37 rfl rfl ?_
            refine sp_getfield X (pc := 38) (c := 13) (i := 22) (t := 2) (a := (B 0)) (v := va_rf (some (B 22))) rfl hVm2.r.o (by decide) rfl (congrArg va_rf hVm2.f22) fl_Mo_57 dX12_nextWord_38 ?_
            refine sp_iload_n X (pc := 41) (x := nI q) dX12_nextWord_41 rfl rfl ?_
            refine sp_iaload X (pc := 42) (a := (B 22)) rfl (Or.inl hVm2.y22) (sp_in q hVm2.l22 (by omega) (by decide)) dX12_nextWord_42 ?_
            rw [show (m2.aI (B 22) (nI q).toNatClampNeg) = (m2.aI (B 22) q) from (congrArg _ (nI_clamp (n := q) (by omega)))]
            rw [show (m2.aI (B 22) q) = (nI (TT q).length) from ((hMT1.rk (sp_rk.wd hwd2 hVm1.r) (by decide) (by decide)) q hq1).1]
            refine sp_icmp_ge X (pc := 43) (tgt := 100) dX12_nextWord_43 (by decide) (fun hb43 => ?_) (fun hb43 => ?_)
            · have hge : (TT q).length ≤ z + r := sp_nge hb43 (by omega) (by omega)
              have hRN : sp_RN (pu_D TT q) R (TT q).length z r := ⟨hzr, hnp, fun y => by omega⟩
              exact cut100 r _ hVm2 hwd2 hRN ww
            · have hlt : z + r < (TT q).length := sp_nlt hb43 (by omega)
              have hby2 := ((hMT1.rk (sp_rk.wd hwd2 hVm1.r) (by decide) (by decide)) q hq1).2 (z + r) hlt
              refine sp_aload_n X (pc := 46) (r := some (B 0)) dX12_nextWord_46 rfl rfl ?_
              refine sp_aload_n X (pc := 47) (r := some (B 0)) dX12_nextWord_47 rfl rfl ?_
              refine sp_getfield X (pc := 48) (c := 13) (i := 23) (t := 2) (a := (B 0)) (v := va_rf (some (B 23))) rfl hVm2.r.o (by decide) rfl (congrArg va_rf hVm2.f23) fl_Mo_60 dX12_nextWord_48 ?_
              refine sp_bipush X (pc := 51) (v := 40) dX12_nextWord_51 (by decide) ?_
              refine sp_iload_n X (pc := 53) (x := nI q) dX12_nextWord_53 rfl rfl ?_
              refine sp_imul X (pc := 54) dX12_nextWord_54 ?_
              rw [show (40 * (nI q)) = (nI (40 * q)) from (sp_mul 40 q)]
              refine sp_iload_n X (pc := 55) (x := nI (z + r)) dX12_nextWord_55 rfl rfl ?_
              refine sp_iadd X (pc := 56) dX12_nextWord_56 ?_
              rw [show ((nI (40 * q)) + (nI (z + r))) = (nI ((40 * q) + (z + r))) from (nI_add (40 * q) (z + r))]
              refine sp_iaload X (pc := 57) (a := (B 23)) rfl (Or.inl hVm2.y23) (sp_in ((40 * q) + (z + r)) hVm2.l23 (by omega) (by decide)) dX12_nextWord_57 ?_
              rw [show (m2.aI (B 23) (nI ((40 * q) + (z + r))).toNatClampNeg) = (m2.aI (B 23) ((40 * q) + (z + r))) from (congrArg _ (nI_clamp (n := ((40 * q) + (z + r))) (by omega)))]
              rw [show (m2.aI (B 23) ((40 * q) + (z + r))) = ((TT q).getD (z + r) 0) from hby2]
              refine sp_callV X (pc := 58) (mc := 0) (ms := 0) (b := (B 0)) (c := 13) (r := some (B 0)) (As := [.int ((TT q).getD (z + r) 0)]) (rest := []) (c_Mo_isParting l G _ hVm2) ok_Mo_isParting rfl hVm2.r.o (by decide) rfl lk_Mo_125 rfl rfl (Nat.zero_le _) (Nat.le_of_ble_eq_true rfl) (Nat.le_of_ble_eq_true rfl) (Nat.zero_le _) (Nat.zero_le _) dX12_nextWord_58 (sp_kI fun v58 m58 hp58 => ?_)
              obtain ⟨hp58v, hp58⟩ := hp58; replace hp58 := (hp58).symm; subst hp58; replace hp58v := (hp58v).symm; subst hp58v
              refine sp_if_ne X (pc := 61) (tgt := 100) dX12_nextWord_61 (by decide) (fun hb61 => ?_) (fun hb61 => ?_)
              · have hRN : sp_RN (pu_D TT q) R (TT q).length z r := ⟨hzr, hnp, fun _ => hb61⟩
                exact cut100 r _ hVm2 hwd2 hRN ww
              · refine sp_aload_n X (pc := 64) (r := some (B 0)) dX12_nextWord_64 rfl rfl ?_
                refine sp_getfield X (pc := 65) (c := 13) (i := 34) (t := 2) (a := (B 0)) (v := va_rf (some (B 34))) rfl hVm2.r.o (by decide) rfl (congrArg va_rf hVm2.f34) fl_Mo_86 dX12_nextWord_65 ?_
                refine sp_aload_n X (pc := 68) (r := some (B 0)) dX12_nextWord_68 rfl rfl ?_
                refine sp_getfield X (pc := 69) (c := 13) (i := 35) (t := 0) (a := (B 0)) (v := .int (nI r)) rfl hVm2.r.o (by decide) rfl (congrArg Value.int hVm2.cw) fl_Mo_107 dX12_nextWord_69 ?_
                refine sp_aload_n X (pc := 72) (r := some (B 0)) dX12_nextWord_72 rfl rfl ?_
                refine sp_getfield X (pc := 73) (c := 13) (i := 23) (t := 2) (a := (B 0)) (v := va_rf (some (B 23))) rfl hVm2.r.o (by decide) rfl (congrArg va_rf hVm2.f23) fl_Mo_60 dX12_nextWord_73 ?_
                refine sp_bipush X (pc := 76) (v := 40) dX12_nextWord_76 (by decide) ?_
                refine sp_iload_n X (pc := 78) (x := nI q) dX12_nextWord_78 rfl rfl ?_
                refine sp_imul X (pc := 79) dX12_nextWord_79 ?_
                rw [show (40 * (nI q)) = (nI (40 * q)) from (sp_mul 40 q)]
                refine sp_iload_n X (pc := 80) (x := nI (z + r)) dX12_nextWord_80 rfl rfl ?_
                refine sp_iadd X (pc := 81) dX12_nextWord_81 ?_
                rw [show ((nI (40 * q)) + (nI (z + r))) = (nI ((40 * q) + (z + r))) from (nI_add (40 * q) (z + r))]
                refine sp_iaload X (pc := 82) (a := (B 23)) rfl (Or.inl hVm2.y23) (sp_in ((40 * q) + (z + r)) hVm2.l23 (by omega) (by decide)) dX12_nextWord_82 ?_
                rw [show (m2.aI (B 23) (nI ((40 * q) + (z + r))).toNatClampNeg) = (m2.aI (B 23) ((40 * q) + (z + r))) from (congrArg _ (nI_clamp (n := ((40 * q) + (z + r))) (by omega)))]
                rw [show (m2.aI (B 23) ((40 * q) + (z + r))) = ((TT q).getD (z + r) 0) from hby2]
                refine sp_iastore X (pc := 83) (a := (B 34)) rfl hVm2.y34 (sp_in r hVm2.l34 (by omega) (by decide))  dX12_nextWord_83 ?_
                rw [show (nI r).toNatClampNeg = r from (nI_clamp (n := r) (by omega))]
                obtain ⟨m83, hm83⟩ : ∃ xm, xm = (m2.sI (B 34) r ((TT q).getD (z + r) 0)) := ⟨_, rfl⟩
                rw [← hm83]
                have hVm83 : sp_V B m0 m83 D R l0 l1 d n b p t e L r vq vm vl vs vA vE := by
                  rw [hm83]
                  exact hVm2.sI 34 r _ (by decide) (by decide) (Nat.zero_le _)
                have hwd3 : sp_wd B m1 m83 := by
                  rw [hm83]
                  exact hwd2.sI _ _
                have ww3 : ∀ i, i < r + 1 → m83.aI (B 34) i = (TT q).getD (z + i) 0 := by
                  rw [hm83]
                  intro i hi
                  rw [sp_sI_aI]
                  by_cases y : i = r
                  · subst y; rw [if_pos ⟨rfl, rfl⟩]
                  · rw [if_neg (by omega)]; exact ww i (by omega)
                clear hm83
                refine sp_aload_n X (pc := 84) (r := some (B 0)) dX12_nextWord_84 rfl rfl ?_
                refine sp_dup X (pc := 85) dX12_nextWord_85 (sp_cat_rf _) ?_
                refine sp_getfield X (pc := 86) (c := 13) (i := 35) (t := 0) (a := (B 0)) (v := .int (nI r)) rfl hVm83.r.o (by decide) rfl (congrArg Value.int hVm83.cw) fl_Mo_107 dX12_nextWord_86 ?_
                refine sp_iconst X (pc := 89) (v := 1) dX12_nextWord_89 (by decide) ?_
                refine sp_iadd X (pc := 90) dX12_nextWord_90 ?_
                rw [show ((nI r) + 1) = (nI (r + 1)) from (nI_add r 1)]
                refine sp_putI X (pc := 91) (c := 13) (i := 35) (q := 867) (a := (B 0)) rfl hVm83.r.o (by decide) rfl rfl (Or.inl rfl) ⟨rfl, rfl⟩ fl_Mo_107 dX12_nextWord_91 ?_
                obtain ⟨m91, hm91⟩ : ∃ xm, xm = (m83.pI 867 (B 0) (nI (r + 1))) := ⟨_, rfl⟩
                rw [← hm91]
                have hVm91 : sp_V B m0 m91 D R l0 l1 d n b p t e L (r + 1) vq vm vl vs vA vE := by
                  rw [hm91]
                  exact hVm83.pw (r + 1) (by omega)
                have hwd4 : sp_wd B m1 m91 := by
                  rw [hm91]
                  exact hwd3.pI _
                have ww4 : ∀ i, i < r + 1 → m91.aI (B 34) i = (TT q).getD (z + i) 0 := by
                  rw [hm91]
                  exact ww3
                clear hm91
                refine sp_iinc X (pc := 94) (v := (nI ((z + r) + 1))) (lv' := [(2, false, .int (nI ((z + r) + 1))), (0, false, va_rf (some (B 0))), (1, false, .int (nI q))]) dX12_nextWord_94 rfl ((sp_i1 (z + r))) (by decide) rfl ?_
                refine sp_goto X (pc := 97) (tgt := 36) dX12_nextWord_97 (by decide) ?_
                refine sp_pick X [1, 2, 0] (lv' := [(0, false, va_rf (some (B 0))), (1, false, .int (nI q)), (2, false, .int (nI ((z + r) + 1)))]) rfl ?_
                exact ih _ (by omega) (r + 1) _ hVm91 hwd4 (by omega) (fun i y => by
                  by_cases w9 : i < r
                  · exact hnp i w9
                  · obtain rfl : i = r := by omega
                    exact hb61) ww4 rfl
        refine sp_pick X [2, 1, 0] (lv' := [(0, false, va_rf (some (B 0))), (1, false, .int (nI q)), (2, false, .int (nI z))]) rfl ?_
        exact loop36 _ 0 _ hVm33 hwd33 (by omega) (fun i y => absurd y (Nat.not_lt_zero _)) (fun i y => absurd y (Nat.not_lt_zero _)) rfl
  exact loop0 _ _ _ _ hVm hQ (sp_rk.refl _ _ _) (Nat.le_refl _) (Nat.le_refl _) hpl rfl
set_option maxHeartbeats 1000000 in
set_option maxRecDepth 20000 in
theorem c_Mo_isLeft (l : Launch) (G : sp_G) (m : sp_M) {B : Nat → Nat} {m0 : sp_M} {D : Nat → Int32} {R : Int32} {l0 l1 : Int64} {d n b p t e L ws : Nat} {vq vm vl : Int32} {vs : Int64} {vA vE : Nat → Int64} (hVm : sp_V B m0 m D R l0 l1 d n b p t e L ws vq vm vl vs vA vE)  {TT : Nat → List Int32} (hMT : sp_mT m B t TT) (hTl : pu_Tt t TT) {tp : Nat} {r9 : List (List Int32)} (hQ : sp_Qp m B t tp) (hpl : sp_pl m B R TT t tp r9) : sp_C l G M_Mo_isLeft 0 0 [.ref (B 0)] m (sp_oI fun v m' => sp_bo v (¬ r9 = []) ∧ m' = m) := by
  refine sp_enter (lv0 := [(0, false, va_rf (some (B 0)))]) "SafePathsModel" false rfl (by decide) (fun h => by cases h) (Nat.le_of_ble_eq_true rfl) rfl ?_
  intro w X
  have bd := hVm.hd
  have bn := hVm.hn
  have bb := hVm.hb
  have bp := hVm.hp
  have bt := hVm.ht
  have be := hVm.he
  have bw := hVm.hw
  have bL := hVm.hL
  have htp24 := hQ.2.1
  refine sp_iconst X (pc := 0) (v := 0) dX12_isLeft_0 (by decide) ?_
  refine sp_istore_n X (pc := 1) (lv' := [(1, false, .int 0), (0, false, va_rf (some (B 0)))]) dX12_isLeft_1 rfl (by decide) rfl ?_
  have loop2 : ∀ (dz : Nat) (k : Nat), k ≤ 25 → (∀ i q z ls, i < k → m.aI (B 36) i = nI q → q < t → m.aI (B 37) i = nI z → z ≤ (TT q).length → sp_TR (pu_D TT q) R (TT q).length z ls → ls = []) → tp - k = dz → w 0 0 m 2 [(0, false, va_rf (some (B 0))), (1, false, .int (nI k))] [] := by
    intro dz
    induction dz using Nat.strongRecOn with
    | ind dz ih =>
      intro k hk0 hno hdz
      have ihA := ih
      refine sp_iload_n X (pc := 2) (x := nI k) dX12_isLeft_2 rfl rfl ?_
      refine sp_aload_n X (pc := 3) (r := some (B 0)) dX12_isLeft_3 rfl rfl ?_
      refine sp_getfield X (pc := 4) (c := 13) (i := 38) (t := 0) (a := (B 0)) (v := .int (nI tp)) rfl hVm.r.o (by decide) rfl (congrArg Value.int hQ.1) fl_Mo_159 dX12_isLeft_4 ?_
      refine sp_icmp_ge X (pc := 7) (tgt := 135) dX12_isLeft_7 (by decide) (fun hb7 => ?_) (fun hb7 => ?_)
      · have hk : tp ≤ k := sp_nge hb7 (by omega) (by omega)
        refine sp_iconst X (pc := 135) (v := 0) dX12_isLeft_135 (by decide) ?_
        refine sp_ireturn X (pc := 136) dX12_isLeft_136 rfl ⟨_, rfl, ?_⟩
        exact ⟨sp_bo.f (fun y => y (hpl.none bt hTl (fun i q z ls hi => hno i q z ls (by omega)))), rfl⟩
      · have hk : k < tp := sp_nlt hb7 (by omega)
        obtain ⟨q, z, ls, hq, hq1, hz, hz1, hTR, hls⟩ := hpl.ent k hk
        have hts1 := hTl q hq1
        have hts := (hMT q hq1).1
        refine sp_aload_n X (pc := 10) (r := some (B 0)) dX12_isLeft_10 rfl rfl ?_
        refine sp_getfield X (pc := 11) (c := 13) (i := 36) (t := 2) (a := (B 0)) (v := va_rf (some (B 36))) rfl hVm.r.o (by decide) rfl (congrArg va_rf hVm.f36) fl_Mo_89 dX12_isLeft_11 ?_
        refine sp_iload_n X (pc := 14) (x := nI k) dX12_isLeft_14 rfl rfl ?_
        refine sp_iaload X (pc := 15) (a := (B 36)) rfl (Or.inl hVm.y36) (sp_in k hVm.l36 (by omega) (by decide)) dX12_isLeft_15 ?_
        rw [show (m.aI (B 36) (nI k).toNatClampNeg) = (m.aI (B 36) k) from (congrArg _ (nI_clamp (n := k) (by omega)))]
        rw [show (m.aI (B 36) k) = (nI q) from hq]
        refine sp_istore_n X (pc := 16) (lv' := [(2, false, .int (nI q)), (0, false, va_rf (some (B 0))), (1, false, .int (nI k))]) dX12_isLeft_16 rfl (by decide) rfl ?_
        refine sp_iconst X (pc := 17) (v := 0) dX12_isLeft_17 (by decide) ?_
        refine sp_istore_n X (pc := 18) (lv' := [(3, false, .int 0), (2, false, .int (nI q)), (0, false, va_rf (some (B 0))), (1, false, .int (nI k))]) dX12_isLeft_18 rfl (by decide) rfl ?_
        refine sp_iconst X (pc := 19) (v := 0) dX12_isLeft_19 (by decide) ?_
        refine sp_istore X (pc := 20) (lv' := [(4, false, .int 0), (3, false, .int 0), (2, false, .int (nI q)), (0, false, va_rf (some (B 0))), (1, false, .int (nI k))]) dX12_isLeft_20  (by decide) rfl ?_
        refine sp_aload_n X (pc := 22) (r := some (B 0)) dX12_isLeft_22 rfl rfl ?_
        refine sp_getfield X (pc := 23) (c := 13) (i := 37) (t := 2) (a := (B 0)) (v := va_rf (some (B 37))) rfl hVm.r.o (by decide) rfl (congrArg va_rf hVm.f37) fl_Mo_92 dX12_isLeft_23 ?_
        refine sp_iload_n X (pc := 26) (x := nI k) dX12_isLeft_26 rfl rfl ?_
        refine sp_iaload X (pc := 27) (a := (B 37)) rfl (Or.inl hVm.y37) (sp_in k hVm.l37 (by omega) (by decide)) dX12_isLeft_27 ?_
        rw [show (m.aI (B 37) (nI k).toNatClampNeg) = (m.aI (B 37) k) from (congrArg _ (nI_clamp (n := k) (by omega)))]
        rw [show (m.aI (B 37) k) = (nI z) from hz]
        refine sp_istore X (pc := 28) (lv' := [(5, false, .int (nI z)), (4, false, .int 0), (3, false, .int 0), (2, false, .int (nI q)), (0, false, va_rf (some (B 0))), (1, false, .int (nI k))]) dX12_isLeft_28  (by decide) rfl ?_
        have loop30 : ∀ (dz : Nat) (a c : Nat) (y : Int32), a + c ≤ (TT q).length + 1 → (c = 0 ∨ a + c ≤ (TT q).length) → sp_TR (pu_D TT q) R (TT q).length a ls → (∀ i, i < c → sp_pb R ((TT q).getD (a + i) 0) = 0) → (0 < c → sp_bo y (¬ (TT q).getD (a + c - 1) 0 = 46)) → 42 - (a + c) = dz → w 0 0 m 30 [(0, false, va_rf (some (B 0))), (1, false, .int (nI k)), (2, false, .int (nI q)), (3, false, .int (nI c)), (4, false, .int y), (5, false, .int (nI (a + c)))] [] := by
          intro dz
          induction dz using Nat.strongRecOn with
          | ind dz ih =>
            intro a c y hac hc0 hTR2 hnp hy hdz
            refine sp_iload X (pc := 30) (x := nI (a + c)) dX12_isLeft_30 rfl ?_
            refine sp_aload_n X (pc := 32) (r := some (B 0)) dX12_isLeft_32 rfl rfl ?_
            refine sp_getfield X (pc := 33) (c := 13) (i := 22) (t := 2) (a := (B 0)) (v := va_rf (some (B 22))) rfl hVm.r.o (by decide) rfl (congrArg va_rf hVm.f22) fl_Mo_57 dX12_isLeft_33 ?_
            refine sp_iload_n X (pc := 36) (x := nI q) dX12_isLeft_36 rfl rfl ?_
            refine sp_iaload X (pc := 37) (a := (B 22)) rfl (Or.inl hVm.y22) (sp_in q hVm.l22 (by omega) (by decide)) dX12_isLeft_37 ?_
            rw [show (m.aI (B 22) (nI q).toNatClampNeg) = (m.aI (B 22) q) from (congrArg _ (nI_clamp (n := q) (by omega)))]
            rw [show (m.aI (B 22) q) = (nI (TT q).length) from hts]
            refine sp_icmp_gt X (pc := 38) (tgt := 129) dX12_isLeft_38 (by decide) (fun hb38 => ?_) (fun hb38 => ?_)
            · have hle : (TT q).length < a + c := (nI_ltI (by omega) (by omega)).mp hb38
              refine sp_iinc X (pc := 129) (v := (nI (k + 1))) (lv' := [(1, false, .int (nI (k + 1))), (0, false, va_rf (some (B 0))), (2, false, .int (nI q)), (3, false, .int (nI c)), (4, false, .int y), (5, false, .int (nI (a + c)))]) dX12_isLeft_129 rfl ((sp_i1 k)) (by decide) rfl ?_
              refine sp_goto X (pc := 132) (tgt := 2) dX12_isLeft_132 (by decide) ?_
              refine sp_pick X [1, 0] (lv' := [(0, false, va_rf (some (B 0))), (1, false, .int (nI (k + 1)))]) rfl ?_
              have hl0 : ls = [] := hTR2.over (by omega)
              exact ihA _ (by omega) (k + 1) (by omega) (fun i q2 z2 ls2 hi e1 e2 e3 e4 e5 => by
                by_cases y : i < k
                · exact hno i q2 z2 ls2 y e1 e2 e3 e4 e5
                · obtain rfl : i = k := by omega
                  obtain rfl := pu_nI (hq.symm.trans e1) (by omega) (by omega)
                  obtain rfl := pu_nI (hz.symm.trans e3) (by omega) (by omega)
                  rw [← hTR.det e5]
                  exact hl0) rfl
            · have hle : a + c ≤ (TT q).length := Nat.not_lt.mp (fun q => hb38 (nI_lt q (by omega)))
              refine sp_iload X (pc := 41) (x := nI (a + c)) dX12_isLeft_41 rfl ?_
              refine sp_aload_n X (pc := 43) (r := some (B 0)) dX12_isLeft_43 rfl rfl ?_
              refine sp_getfield X (pc := 44) (c := 13) (i := 22) (t := 2) (a := (B 0)) (v := va_rf (some (B 22))) rfl hVm.r.o (by decide) rfl (congrArg va_rf hVm.f22) fl_Mo_57 dX12_isLeft_44 ?_
              refine sp_iload_n X (pc := 47) (x := nI q) dX12_isLeft_47 rfl rfl ?_
              refine sp_iaload X (pc := 48) (a := (B 22)) rfl (Or.inl hVm.y22) (sp_in q hVm.l22 (by omega) (by decide)) dX12_isLeft_48 ?_
              rw [show (m.aI (B 22) (nI q).toNatClampNeg) = (m.aI (B 22) q) from (congrArg _ (nI_clamp (n := q) (by omega)))]
              rw [show (m.aI (B 22) q) = (nI (TT q).length) from hts]
              refine sp_icmp_eq X (pc := 49) (tgt := 71) dX12_isLeft_49 (by decide) (fun hb49 => ?_) (fun hb49 => ?_)
              · have heq : a + c = (TT q).length := sp_neq hb49 (by omega) (by omega)
                have hRN : sp_RN (pu_D TT q) R (TT q).length a c := ⟨by omega, hnp, fun y => by omega⟩
                have hzr := hRN.1
                refine sp_iload_n X (pc := 71) (x := nI c) dX12_isLeft_71 rfl rfl ?_
                refine sp_iconst X (pc := 72) (v := 1) dX12_isLeft_72 (by decide) ?_
                refine sp_icmp_gt X (pc := 73) (tgt := 86) dX12_isLeft_73 (by decide) (fun hb73 => ?_) (fun hb73 => ?_)
                · have hwk : sp_wkk (pu_D TT q) a c := ⟨by have := (nI_ltI (a := 1) (by decide) (by omega)).mp hb73; omega, fun y => by have := (nI_ltI (a := 1) (by decide) (by omega)).mp hb73; omega⟩
                  refine sp_iconst X (pc := 86) (v := 1) dX12_isLeft_86 (by decide) ?_
                  refine sp_ireturn X (pc := 87) dX12_isLeft_87 rfl ⟨_, rfl, ?_⟩
                  refine ⟨sp_bo.t (fun y => ?_), rfl⟩
                  obtain ⟨l8, e8, -⟩ := hTR2.hit' hRN hwk
                  rw [hls y] at e8
                  cases e8
                · have hc1 : c ≤ 1 := Nat.not_lt.mp (fun y => hb73 (nI_lt (a := 1) y (by omega)))
                  refine sp_iload_n X (pc := 76) (x := nI c) dX12_isLeft_76 rfl rfl ?_
                  refine sp_iconst X (pc := 77) (v := 1) dX12_isLeft_77 (by decide) ?_
                  refine sp_icmp_ne X (pc := 78) (tgt := 88) dX12_isLeft_78 (by decide) (fun hb78 => ?_) (fun hb78 => ?_)
                  · have hwk : ¬ sp_wkk (pu_D TT q) a c := fun y => hb78 (by rw [show c = 1 by have := y.1; omega]; rfl)
                    refine sp_iconst X (pc := 88) (v := 0) dX12_isLeft_88 (by decide) ?_
                    refine sp_istore_n X (pc := 89) (lv' := [(3, false, .int 0), (0, false, va_rf (some (B 0))), (1, false, .int (nI k)), (2, false, .int (nI q)), (4, false, .int y), (5, false, .int (nI (a + c)))]) dX12_isLeft_89 rfl (by decide) rfl ?_
                    refine sp_iconst X (pc := 90) (v := 0) dX12_isLeft_90 (by decide) ?_
                    refine sp_istore X (pc := 91) (lv' := [(4, false, .int 0), (3, false, .int 0), (0, false, va_rf (some (B 0))), (1, false, .int (nI k)), (2, false, .int (nI q)), (5, false, .int (nI (a + c)))]) dX12_isLeft_91  (by decide) rfl ?_
                    refine sp_goto X (pc := 93) (tgt := 123) dX12_isLeft_93 (by decide) ?_
                    refine sp_iinc X (pc := 123) (v := (nI ((a + c) + 1))) (lv' := [(5, false, .int (nI ((a + c) + 1))), (4, false, .int 0), (3, false, .int 0), (0, false, va_rf (some (B 0))), (1, false, .int (nI k)), (2, false, .int (nI q))]) dX12_isLeft_123 rfl ((sp_i1 (a + c))) (by decide) rfl ?_
                    refine sp_goto X (pc := 126) (tgt := 30) dX12_isLeft_126 (by decide) ?_
                    refine sp_pick X [3, 4, 5, 2, 1, 0] (lv' := [(0, false, va_rf (some (B 0))), (1, false, .int (nI k)), (2, false, .int (nI q)), (3, false, .int 0), (4, false, .int 0), (5, false, .int (nI ((a + c) + 1)))]) rfl ?_
                    first
                      | exact ih _ (by omega) (a + c + 1) 0 0 (by omega) (Or.inl rfl) (hTR2.skip' hRN hwk) (fun i y => absurd y (Nat.not_lt_zero _)) (fun y => absurd y (by decide)) rfl
                      | exact ih _ (by omega) (a + 1 + 1) 0 0 (by omega) (Or.inl rfl) (hTR2.skip' hRN hwk) (fun i y => absurd y (Nat.not_lt_zero _)) (fun y => absurd y (by decide)) rfl
                      | exact ih _ (by omega) a (c + 1) _ (by omega) (Or.inr (by omega)) hTR2 (fun i y9 => by
                          by_cases w9 : i < c
                          · exact hnp i w9
                          · obtain rfl : i = c := by omega
                            exact hb68) (fun _ => by
                          rw [show a + (c + 1) - 1 = a + c by omega]
                          first
                            | exact sp_bo.t hb113
                            | exact sp_bo.f (fun y9 => y9 hb113)) rfl
                  · have hce : c = 1 := sp_neq (b := 1) hb78 (by omega) (by decide)
                    subst hce
                    refine sp_iload X (pc := 81) (x := y) dX12_isLeft_81 rfl ?_
                    refine sp_if_eq X (pc := 83) (tgt := 88) dX12_isLeft_83 (by decide) (fun hb83 => ?_) (fun hb83 => ?_)
                    · have hwk : ¬ sp_wkk (pu_D TT q) a 1 := fun y => y.2 ⟨rfl, Classical.byContradiction fun y9 => (hy (by omega)).eq hb83 y9⟩
                      refine sp_iconst X (pc := 88) (v := 0) dX12_isLeft_88 (by decide) ?_
                      refine sp_istore_n X (pc := 89) (lv' := [(3, false, .int 0), (0, false, va_rf (some (B 0))), (1, false, .int (nI k)), (2, false, .int (nI q)), (4, false, .int y), (5, false, .int (nI (a + 1)))]) dX12_isLeft_89 rfl (by decide) rfl ?_
                      refine sp_iconst X (pc := 90) (v := 0) dX12_isLeft_90 (by decide) ?_
                      refine sp_istore X (pc := 91) (lv' := [(4, false, .int 0), (3, false, .int 0), (0, false, va_rf (some (B 0))), (1, false, .int (nI k)), (2, false, .int (nI q)), (5, false, .int (nI (a + 1)))]) dX12_isLeft_91  (by decide) rfl ?_
                      refine sp_goto X (pc := 93) (tgt := 123) dX12_isLeft_93 (by decide) ?_
                      refine sp_iinc X (pc := 123) (v := (nI ((a + 1) + 1))) (lv' := [(5, false, .int (nI ((a + 1) + 1))), (4, false, .int 0), (3, false, .int 0), (0, false, va_rf (some (B 0))), (1, false, .int (nI k)), (2, false, .int (nI q))]) dX12_isLeft_123 rfl ((sp_i1 (a + 1))) (by decide) rfl ?_
                      refine sp_goto X (pc := 126) (tgt := 30) dX12_isLeft_126 (by decide) ?_
                      refine sp_pick X [3, 4, 5, 2, 1, 0] (lv' := [(0, false, va_rf (some (B 0))), (1, false, .int (nI k)), (2, false, .int (nI q)), (3, false, .int 0), (4, false, .int 0), (5, false, .int (nI ((a + 1) + 1)))]) rfl ?_
                      first
                        | exact ih _ (by omega) (a + c + 1) 0 0 (by omega) (Or.inl rfl) (hTR2.skip' hRN hwk) (fun i y => absurd y (Nat.not_lt_zero _)) (fun y => absurd y (by decide)) rfl
                        | exact ih _ (by omega) (a + 1 + 1) 0 0 (by omega) (Or.inl rfl) (hTR2.skip' hRN hwk) (fun i y => absurd y (Nat.not_lt_zero _)) (fun y => absurd y (by decide)) rfl
                        | exact ih _ (by omega) a (c + 1) _ (by omega) (Or.inr (by omega)) hTR2 (fun i y9 => by
                            by_cases w9 : i < c
                            · exact hnp i w9
                            · obtain rfl : i = c := by omega
                              exact hb68) (fun _ => by
                            rw [show a + (c + 1) - 1 = a + c by omega]
                            first
                              | exact sp_bo.t hb113
                              | exact sp_bo.f (fun y9 => y9 hb113)) rfl
                    · have hwk : sp_wkk (pu_D TT q) a 1 := ⟨by omega, fun y => (hy (by omega)).ne hb83 y.2⟩
                      refine sp_iconst X (pc := 86) (v := 1) dX12_isLeft_86 (by decide) ?_
                      refine sp_ireturn X (pc := 87) dX12_isLeft_87 rfl ⟨_, rfl, ?_⟩
                      refine ⟨sp_bo.t (fun y => ?_), rfl⟩
                      obtain ⟨l8, e8, -⟩ := hTR2.hit' hRN hwk
                      rw [hls y] at e8
                      cases e8
              · have hne : a + c ≠ (TT q).length := fun y => hb49 (by rw [y])
                have hby := (hMT q hq1).2 (a + c) (by omega)
                refine sp_aload_n X (pc := 52) (r := some (B 0)) dX12_isLeft_52 rfl rfl ?_
                refine sp_aload_n X (pc := 53) (r := some (B 0)) dX12_isLeft_53 rfl rfl ?_
                refine sp_getfield X (pc := 54) (c := 13) (i := 23) (t := 2) (a := (B 0)) (v := va_rf (some (B 23))) rfl hVm.r.o (by decide) rfl (congrArg va_rf hVm.f23) fl_Mo_60 dX12_isLeft_54 ?_
                refine sp_bipush X (pc := 57) (v := 40) dX12_isLeft_57 (by decide) ?_
                refine sp_iload_n X (pc := 59) (x := nI q) dX12_isLeft_59 rfl rfl ?_
                refine sp_imul X (pc := 60) dX12_isLeft_60 ?_
                rw [show (40 * (nI q)) = (nI (40 * q)) from (sp_mul 40 q)]
                refine sp_iload X (pc := 61) (x := nI (a + c)) dX12_isLeft_61 rfl ?_
                refine sp_iadd X (pc := 63) dX12_isLeft_63 ?_
                rw [show ((nI (40 * q)) + (nI (a + c))) = (nI ((40 * q) + (a + c))) from (nI_add (40 * q) (a + c))]
                refine sp_iaload X (pc := 64) (a := (B 23)) rfl (Or.inl hVm.y23) (sp_in ((40 * q) + (a + c)) hVm.l23 (by omega) (by decide)) dX12_isLeft_64 ?_
                rw [show (m.aI (B 23) (nI ((40 * q) + (a + c))).toNatClampNeg) = (m.aI (B 23) ((40 * q) + (a + c))) from (congrArg _ (nI_clamp (n := ((40 * q) + (a + c))) (by omega)))]
                rw [show (m.aI (B 23) ((40 * q) + (a + c))) = ((TT q).getD (a + c) 0) from hby]
                refine sp_callV X (pc := 65) (mc := 0) (ms := 0) (b := (B 0)) (c := 13) (r := some (B 0)) (As := [.int ((TT q).getD (a + c) 0)]) (rest := []) (c_Mo_isParting l G _ hVm) ok_Mo_isParting rfl hVm.r.o (by decide) rfl lk_Mo_125 rfl rfl (Nat.zero_le _) (Nat.le_of_ble_eq_true rfl) (Nat.le_of_ble_eq_true rfl) (Nat.zero_le _) (Nat.zero_le _) dX12_isLeft_65 (sp_kI fun v65 m65 hp65 => ?_)
                obtain ⟨hp65v, hp65⟩ := hp65; replace hp65 := (hp65).symm; subst hp65; replace hp65v := (hp65v).symm; subst hp65v
                refine sp_if_eq X (pc := 68) (tgt := 96) dX12_isLeft_68 (by decide) (fun hb68 => ?_) (fun hb68 => ?_)
                · refine sp_iinc X (pc := 96) (v := (nI (c + 1))) (lv' := [(3, false, .int (nI (c + 1))), (0, false, va_rf (some (B 0))), (1, false, .int (nI k)), (2, false, .int (nI q)), (4, false, .int y), (5, false, .int (nI (a + c)))]) dX12_isLeft_96 rfl ((sp_i1 c)) (by decide) rfl ?_
                  refine sp_aload_n X (pc := 99) (r := some (B 0)) dX12_isLeft_99 rfl rfl ?_
                  refine sp_getfield X (pc := 100) (c := 13) (i := 23) (t := 2) (a := (B 0)) (v := va_rf (some (B 23))) rfl hVm.r.o (by decide) rfl (congrArg va_rf hVm.f23) fl_Mo_60 dX12_isLeft_100 ?_
                  refine sp_bipush X (pc := 103) (v := 40) dX12_isLeft_103 (by decide) ?_
                  refine sp_iload_n X (pc := 105) (x := nI q) dX12_isLeft_105 rfl rfl ?_
                  refine sp_imul X (pc := 106) dX12_isLeft_106 ?_
                  rw [show (40 * (nI q)) = (nI (40 * q)) from (sp_mul 40 q)]
                  refine sp_iload X (pc := 107) (x := nI (a + c)) dX12_isLeft_107 rfl ?_
                  refine sp_iadd X (pc := 109) dX12_isLeft_109 ?_
                  rw [show ((nI (40 * q)) + (nI (a + c))) = (nI ((40 * q) + (a + c))) from (nI_add (40 * q) (a + c))]
                  refine sp_iaload X (pc := 110) (a := (B 23)) rfl (Or.inl hVm.y23) (sp_in ((40 * q) + (a + c)) hVm.l23 (by omega) (by decide)) dX12_isLeft_110 ?_
                  rw [show (m.aI (B 23) (nI ((40 * q) + (a + c))).toNatClampNeg) = (m.aI (B 23) ((40 * q) + (a + c))) from (congrArg _ (nI_clamp (n := ((40 * q) + (a + c))) (by omega)))]
                  rw [show (m.aI (B 23) ((40 * q) + (a + c))) = ((TT q).getD (a + c) 0) from hby]
                  refine sp_bipush X (pc := 111) (v := 46) dX12_isLeft_111 (by decide) ?_
                  refine sp_icmp_eq X (pc := 113) (tgt := 120) dX12_isLeft_113 (by decide) (fun hb113 => ?_) (fun hb113 => ?_)
                  · refine sp_iconst X (pc := 120) (v := 0) dX12_isLeft_120 (by decide) ?_
                    refine sp_istore X (pc := 121) (lv' := [(4, false, .int 0), (3, false, .int (nI (c + 1))), (0, false, va_rf (some (B 0))), (1, false, .int (nI k)), (2, false, .int (nI q)), (5, false, .int (nI (a + c)))]) dX12_isLeft_121  (by decide) rfl ?_
                    refine sp_iinc X (pc := 123) (v := (nI ((a + c) + 1))) (lv' := [(5, false, .int (nI ((a + c) + 1))), (4, false, .int 0), (3, false, .int (nI (c + 1))), (0, false, va_rf (some (B 0))), (1, false, .int (nI k)), (2, false, .int (nI q))]) dX12_isLeft_123 rfl ((sp_i1 (a + c))) (by decide) rfl ?_
                    refine sp_goto X (pc := 126) (tgt := 30) dX12_isLeft_126 (by decide) ?_
                    refine sp_pick X [3, 4, 5, 2, 1, 0] (lv' := [(0, false, va_rf (some (B 0))), (1, false, .int (nI k)), (2, false, .int (nI q)), (3, false, .int (nI (c + 1))), (4, false, .int 0), (5, false, .int (nI ((a + c) + 1)))]) rfl ?_
                    first
                      | exact ih _ (by omega) (a + c + 1) 0 0 (by omega) (Or.inl rfl) (hTR2.skip' hRN hwk) (fun i y => absurd y (Nat.not_lt_zero _)) (fun y => absurd y (by decide)) rfl
                      | exact ih _ (by omega) (a + 1 + 1) 0 0 (by omega) (Or.inl rfl) (hTR2.skip' hRN hwk) (fun i y => absurd y (Nat.not_lt_zero _)) (fun y => absurd y (by decide)) rfl
                      | exact ih _ (by omega) a (c + 1) _ (by omega) (Or.inr (by omega)) hTR2 (fun i y9 => by
                          by_cases w9 : i < c
                          · exact hnp i w9
                          · obtain rfl : i = c := by omega
                            exact hb68) (fun _ => by
                          rw [show a + (c + 1) - 1 = a + c by omega]
                          first
                            | exact sp_bo.t hb113
                            | exact sp_bo.f (fun y9 => y9 hb113)) rfl
                  · refine sp_iconst X (pc := 116) (v := 1) dX12_isLeft_116 (by decide) ?_
                    refine sp_goto X (pc := 117) (tgt := 121) dX12_isLeft_117 (by decide) ?_
                    refine sp_istore X (pc := 121) (lv' := [(4, false, .int 1), (3, false, .int (nI (c + 1))), (0, false, va_rf (some (B 0))), (1, false, .int (nI k)), (2, false, .int (nI q)), (5, false, .int (nI (a + c)))]) dX12_isLeft_121  (by decide) rfl ?_
                    refine sp_iinc X (pc := 123) (v := (nI ((a + c) + 1))) (lv' := [(5, false, .int (nI ((a + c) + 1))), (4, false, .int 1), (3, false, .int (nI (c + 1))), (0, false, va_rf (some (B 0))), (1, false, .int (nI k)), (2, false, .int (nI q))]) dX12_isLeft_123 rfl ((sp_i1 (a + c))) (by decide) rfl ?_
                    refine sp_goto X (pc := 126) (tgt := 30) dX12_isLeft_126 (by decide) ?_
                    refine sp_pick X [3, 4, 5, 2, 1, 0] (lv' := [(0, false, va_rf (some (B 0))), (1, false, .int (nI k)), (2, false, .int (nI q)), (3, false, .int (nI (c + 1))), (4, false, .int 1), (5, false, .int (nI ((a + c) + 1)))]) rfl ?_
                    first
                      | exact ih _ (by omega) (a + c + 1) 0 0 (by omega) (Or.inl rfl) (hTR2.skip' hRN hwk) (fun i y => absurd y (Nat.not_lt_zero _)) (fun y => absurd y (by decide)) rfl
                      | exact ih _ (by omega) (a + 1 + 1) 0 0 (by omega) (Or.inl rfl) (hTR2.skip' hRN hwk) (fun i y => absurd y (Nat.not_lt_zero _)) (fun y => absurd y (by decide)) rfl
                      | exact ih _ (by omega) a (c + 1) _ (by omega) (Or.inr (by omega)) hTR2 (fun i y9 => by
                          by_cases w9 : i < c
                          · exact hnp i w9
                          · obtain rfl : i = c := by omega
                            exact hb68) (fun _ => by
                          rw [show a + (c + 1) - 1 = a + c by omega]
                          first
                            | exact sp_bo.t hb113
                            | exact sp_bo.f (fun y9 => y9 hb113)) rfl
                · have hRN : sp_RN (pu_D TT q) R (TT q).length a c := ⟨by omega, hnp, fun _ => hb68⟩
                  have hzr := hRN.1
                  refine sp_iload_n X (pc := 71) (x := nI c) dX12_isLeft_71 rfl rfl ?_
                  refine sp_iconst X (pc := 72) (v := 1) dX12_isLeft_72 (by decide) ?_
                  refine sp_icmp_gt X (pc := 73) (tgt := 86) dX12_isLeft_73 (by decide) (fun hb73 => ?_) (fun hb73 => ?_)
                  · have hwk : sp_wkk (pu_D TT q) a c := ⟨by have := (nI_ltI (a := 1) (by decide) (by omega)).mp hb73; omega, fun y => by have := (nI_ltI (a := 1) (by decide) (by omega)).mp hb73; omega⟩
                    refine sp_iconst X (pc := 86) (v := 1) dX12_isLeft_86 (by decide) ?_
                    refine sp_ireturn X (pc := 87) dX12_isLeft_87 rfl ⟨_, rfl, ?_⟩
                    refine ⟨sp_bo.t (fun y => ?_), rfl⟩
                    obtain ⟨l8, e8, -⟩ := hTR2.hit' hRN hwk
                    rw [hls y] at e8
                    cases e8
                  · have hc1 : c ≤ 1 := Nat.not_lt.mp (fun y => hb73 (nI_lt (a := 1) y (by omega)))
                    refine sp_iload_n X (pc := 76) (x := nI c) dX12_isLeft_76 rfl rfl ?_
                    refine sp_iconst X (pc := 77) (v := 1) dX12_isLeft_77 (by decide) ?_
                    refine sp_icmp_ne X (pc := 78) (tgt := 88) dX12_isLeft_78 (by decide) (fun hb78 => ?_) (fun hb78 => ?_)
                    · have hwk : ¬ sp_wkk (pu_D TT q) a c := fun y => hb78 (by rw [show c = 1 by have := y.1; omega]; rfl)
                      refine sp_iconst X (pc := 88) (v := 0) dX12_isLeft_88 (by decide) ?_
                      refine sp_istore_n X (pc := 89) (lv' := [(3, false, .int 0), (0, false, va_rf (some (B 0))), (1, false, .int (nI k)), (2, false, .int (nI q)), (4, false, .int y), (5, false, .int (nI (a + c)))]) dX12_isLeft_89 rfl (by decide) rfl ?_
                      refine sp_iconst X (pc := 90) (v := 0) dX12_isLeft_90 (by decide) ?_
                      refine sp_istore X (pc := 91) (lv' := [(4, false, .int 0), (3, false, .int 0), (0, false, va_rf (some (B 0))), (1, false, .int (nI k)), (2, false, .int (nI q)), (5, false, .int (nI (a + c)))]) dX12_isLeft_91  (by decide) rfl ?_
                      refine sp_goto X (pc := 93) (tgt := 123) dX12_isLeft_93 (by decide) ?_
                      refine sp_iinc X (pc := 123) (v := (nI ((a + c) + 1))) (lv' := [(5, false, .int (nI ((a + c) + 1))), (4, false, .int 0), (3, false, .int 0), (0, false, va_rf (some (B 0))), (1, false, .int (nI k)), (2, false, .int (nI q))]) dX12_isLeft_123 rfl ((sp_i1 (a + c))) (by decide) rfl ?_
                      refine sp_goto X (pc := 126) (tgt := 30) dX12_isLeft_126 (by decide) ?_
                      refine sp_pick X [3, 4, 5, 2, 1, 0] (lv' := [(0, false, va_rf (some (B 0))), (1, false, .int (nI k)), (2, false, .int (nI q)), (3, false, .int 0), (4, false, .int 0), (5, false, .int (nI ((a + c) + 1)))]) rfl ?_
                      first
                        | exact ih _ (by omega) (a + c + 1) 0 0 (by omega) (Or.inl rfl) (hTR2.skip' hRN hwk) (fun i y => absurd y (Nat.not_lt_zero _)) (fun y => absurd y (by decide)) rfl
                        | exact ih _ (by omega) (a + 1 + 1) 0 0 (by omega) (Or.inl rfl) (hTR2.skip' hRN hwk) (fun i y => absurd y (Nat.not_lt_zero _)) (fun y => absurd y (by decide)) rfl
                        | exact ih _ (by omega) a (c + 1) _ (by omega) (Or.inr (by omega)) hTR2 (fun i y9 => by
                            by_cases w9 : i < c
                            · exact hnp i w9
                            · obtain rfl : i = c := by omega
                              exact hb68) (fun _ => by
                            rw [show a + (c + 1) - 1 = a + c by omega]
                            first
                              | exact sp_bo.t hb113
                              | exact sp_bo.f (fun y9 => y9 hb113)) rfl
                    · have hce : c = 1 := sp_neq (b := 1) hb78 (by omega) (by decide)
                      subst hce
                      refine sp_iload X (pc := 81) (x := y) dX12_isLeft_81 rfl ?_
                      refine sp_if_eq X (pc := 83) (tgt := 88) dX12_isLeft_83 (by decide) (fun hb83 => ?_) (fun hb83 => ?_)
                      · have hwk : ¬ sp_wkk (pu_D TT q) a 1 := fun y => y.2 ⟨rfl, Classical.byContradiction fun y9 => (hy (by omega)).eq hb83 y9⟩
                        refine sp_iconst X (pc := 88) (v := 0) dX12_isLeft_88 (by decide) ?_
                        refine sp_istore_n X (pc := 89) (lv' := [(3, false, .int 0), (0, false, va_rf (some (B 0))), (1, false, .int (nI k)), (2, false, .int (nI q)), (4, false, .int y), (5, false, .int (nI (a + 1)))]) dX12_isLeft_89 rfl (by decide) rfl ?_
                        refine sp_iconst X (pc := 90) (v := 0) dX12_isLeft_90 (by decide) ?_
                        refine sp_istore X (pc := 91) (lv' := [(4, false, .int 0), (3, false, .int 0), (0, false, va_rf (some (B 0))), (1, false, .int (nI k)), (2, false, .int (nI q)), (5, false, .int (nI (a + 1)))]) dX12_isLeft_91  (by decide) rfl ?_
                        refine sp_goto X (pc := 93) (tgt := 123) dX12_isLeft_93 (by decide) ?_
                        refine sp_iinc X (pc := 123) (v := (nI ((a + 1) + 1))) (lv' := [(5, false, .int (nI ((a + 1) + 1))), (4, false, .int 0), (3, false, .int 0), (0, false, va_rf (some (B 0))), (1, false, .int (nI k)), (2, false, .int (nI q))]) dX12_isLeft_123 rfl ((sp_i1 (a + 1))) (by decide) rfl ?_
                        refine sp_goto X (pc := 126) (tgt := 30) dX12_isLeft_126 (by decide) ?_
                        refine sp_pick X [3, 4, 5, 2, 1, 0] (lv' := [(0, false, va_rf (some (B 0))), (1, false, .int (nI k)), (2, false, .int (nI q)), (3, false, .int 0), (4, false, .int 0), (5, false, .int (nI ((a + 1) + 1)))]) rfl ?_
                        first
                          | exact ih _ (by omega) (a + c + 1) 0 0 (by omega) (Or.inl rfl) (hTR2.skip' hRN hwk) (fun i y => absurd y (Nat.not_lt_zero _)) (fun y => absurd y (by decide)) rfl
                          | exact ih _ (by omega) (a + 1 + 1) 0 0 (by omega) (Or.inl rfl) (hTR2.skip' hRN hwk) (fun i y => absurd y (Nat.not_lt_zero _)) (fun y => absurd y (by decide)) rfl
                          | exact ih _ (by omega) a (c + 1) _ (by omega) (Or.inr (by omega)) hTR2 (fun i y9 => by
                              by_cases w9 : i < c
                              · exact hnp i w9
                              · obtain rfl : i = c := by omega
                                exact hb68) (fun _ => by
                              rw [show a + (c + 1) - 1 = a + c by omega]
                              first
                                | exact sp_bo.t hb113
                                | exact sp_bo.f (fun y9 => y9 hb113)) rfl
                      · have hwk : sp_wkk (pu_D TT q) a 1 := ⟨by omega, fun y => (hy (by omega)).ne hb83 y.2⟩
                        refine sp_iconst X (pc := 86) (v := 1) dX12_isLeft_86 (by decide) ?_
                        refine sp_ireturn X (pc := 87) dX12_isLeft_87 rfl ⟨_, rfl, ?_⟩
                        refine ⟨sp_bo.t (fun y => ?_), rfl⟩
                        obtain ⟨l8, e8, -⟩ := hTR2.hit' hRN hwk
                        rw [hls y] at e8
                        cases e8
        refine sp_pick X [4, 5, 3, 2, 1, 0] (lv' := [(0, false, va_rf (some (B 0))), (1, false, .int (nI k)), (2, false, .int (nI q)), (3, false, .int 0), (4, false, .int 0), (5, false, .int (nI z))]) rfl ?_
        exact loop30 _ z 0 0 (by omega) (Or.inl rfl) hTR (fun i y => absurd y (Nat.not_lt_zero _)) (fun y => absurd y (by decide)) rfl
  refine sp_pick X [1, 0] (lv' := [(0, false, va_rf (some (B 0))), (1, false, .int 0)]) rfl ?_
  exact loop2 _ 0 (by omega) (fun i q z ls y => absurd y (Nat.not_lt_zero _)) rfl

theorem sp_pl.push {m m' : sp_M} {B : Nat → Nat} {R : Int32} {TT : Nat → List Int32} {t tp q : Nat} {r us : List (List Int32)} (h : sp_pl m B R TT t tp r) (hc : ∀ i, i < tp → m'.aI (B 36) i = m.aI (B 36) i ∧ m'.aI (B 37) i = m.aI (B 37) i) (h6 : m'.aI (B 36) tp = nI q) (h7 : m'.aI (B 37) tp = nI 0) (hq : q < t) (hu : sp_us (pu_D TT q) R (TT q).length us) : sp_pl m' B R TT t (tp + 1) (us ++ r) := by
  obtain ⟨ls, h1, h2⟩ := hu
  exact ⟨q, 0, ls, r, h6, hq, h7, Nat.zero_le _, h1, by rw [h2], h.congr hc⟩
theorem sp_nI_m1 {c : Nat} (h : 0 < c) : nI c + -1 = nI (c - 1) := by
  have := sp_sub (a := c) (c := 1) (by omega)
  rw [← this, Int32.sub_eq_add_neg]
  rfl
set_option maxHeartbeats 4000000 in
set_option maxRecDepth 20000 in
theorem c_Mo_leads (l : Launch) (G : sp_G) (m : sp_M) {B : Nat → Nat} {m0 : sp_M} {D : Nat → Int32} {R : Int32} {l0 l1 : Int64} {d n b p t e ws : Nat} {vq vm vl : Int32} {vs : Int64} {vA vE : Nat → Int64} (hVm : sp_V B m0 m D R l0 l1 d n b p t e n ws vq vm vl vs vA vE)  {T : pu_N} {nb0 : Nat} (hMN : sp_mN m B n n T) (hW : pu_W n nb0 t T) {TT : Nat → List Int32} (hMT : sp_mT m B t TT) (hTl : pu_Tt t TT) (hTU : pu_TU R t TT) {g f0 y0 : Nat} (hg : g < t) (hf0 : f0 < n) (hy0 : y0 ≤ 100) : sp_C l G M_Mo_leads 0 0 [.ref (B 0), .int (nI g), .int (nI f0), .int (nI y0)] m (sp_oI fun v m' => (∃ w', sp_V B m0 m' D R l0 l1 d n b p t e n w' vq vm vl vs vA vE ∧ sp_rk B [34, 36, 37] m m') ∧ ∃ ff, ((pu_tf R TT g ∧ ff = 0) ∨ (¬ pu_tf R TT g ∧ ff = f0)) ∧ pu_LG R n T (pu_tp R TT) (pu_tf R TT) (ff, y0, 0, pu_tp R TT g) v) := by
  refine sp_enter (lv0 := [(0, false, va_rf (some (B 0))), (1, false, .int (nI g)), (2, false, .int (nI f0)), (3, false, .int (nI y0))]) "SafePathsModel" false rfl (by decide) (fun h => by cases h) (Nat.le_of_ble_eq_true rfl) rfl ?_
  intro w X
  have bd := hVm.hd
  have bn := hVm.hn
  have bb := hVm.hb
  have bp := hVm.hp
  have bt := hVm.ht
  have be := hVm.he
  have bw := hVm.hw
  have bL := hVm.hL
  have h4 := hW.1.1
  have hfew : ∀ q, q < t → (pu_tp R TT q).length ≤ 20 := fun q hq => (hTU q hq).few (hTl q hq).2
  have cut59 : ∀ (f fz w1 : Nat) (y : Int32) (m1 : sp_M), f < n → sp_V B m0 m1 D R l0 l1 d n b p t e n w1 vq vm vl vs vA vE → sp_Qp m1 B t 1 → sp_rk B [34, 36, 37] m m1 → sp_pl m1 B R TT t 1 (pu_tp R TT g) → ((pu_tf R TT g ∧ fz = 0) ∨ (¬ pu_tf R TT g ∧ fz = f0)) → fz = f → ((pu_tf R TT g ∧ f = 0) ∨ (¬ pu_tf R TT g ∧ f = f0 ∧ y = nI y0)) → w 0 0 m1 59 [(0, false, va_rf (some (B 0))), (4, false, .int (nI f)), (5, false, .int y)] [] := by
    intro f fz w1 y m1 hf1 hVm1 hQ1 hr1 hpl1 hff hfz hfy
    refine sp_iconst X (pc := 59) (v := 0) dX12_leads_59 (by decide) ?_
    refine sp_istore X (pc := 60) (lv' := [(6, false, .int 0), (0, false, va_rf (some (B 0))), (4, false, .int (nI f)), (5, false, .int y)]) dX12_leads_60  (by decide) rfl ?_
    refine sp_aload_n X (pc := 62) (r := some (B 0)) dX12_leads_62 rfl rfl ?_
    refine sp_iload X (pc := 63) (x := nI f) dX12_leads_63 rfl ?_
    refine sp_callV X (pc := 65) (mc := 0) (ms := 0) (b := (B 0)) (c := 13) (r := some (B 0)) (As := [.int (nI f)]) (rest := []) (c_Mo_isInside l G _ hVm1 (hMN.rk hr1 (by decide)) hW hf1) ok_Mo_isInside rfl hVm1.r.o (by decide) rfl lk_Mo_165 rfl rfl (Nat.zero_le _) (Nat.le_of_ble_eq_true rfl) (Nat.le_of_ble_eq_true rfl) (Nat.zero_le _) (Nat.zero_le _) dX12_leads_65 (sp_kI fun v65 m65 hp65 => ?_)
    obtain ⟨hp65, hp65m⟩ := hp65; replace hp65m := (hp65m).symm; subst hp65m
    refine sp_if_ne X (pc := 68) (tgt := 73) dX12_leads_68 (by decide) (fun hb68 => ?_) (fun hb68 => ?_)
    · have loop73 : ∀ (dz : Nat) (f bl lk tp1 w1 : Nat) (r9 : List (List Int32)) (m1 : sp_M), f < n → lk ≤ 20 → tp1 ≤ lk + 1 → sp_V B m0 m1 D R l0 l1 d n b p t e n w1 vq vm vl vs vA vE → sp_Qp m1 B t tp1 → sp_rk B [34, 36, 37] m m1 → sp_pl m1 B R TT t tp1 r9 → pu_ins T.o f → bl + r9.length ≤ 100 + 20 * (lk + 1) → (∀ v9, pu_LG R n T (pu_tp R TT) (pu_tf R TT) (f, bl, lk, r9) v9 → pu_LG R n T (pu_tp R TT) (pu_tf R TT) (fz, y0, 0, pu_tp R TT g) v9) → sp_ps m1 B tp1 + 43 * (20 - lk) = dz → w 0 0 m1 73 [(0, false, va_rf (some (B 0))), (4, false, .int (nI f)), (5, false, .int (nI bl)), (6, false, .int (nI lk))] [] := by
        intro dz
        induction dz using Nat.strongRecOn with
        | ind dz ih =>
          intro f bl lk tp1 w1 r9 m1 hf1 hlk htp hVm1 hQ1 hr1 hpl1 hin hbl hLG hdz
          have cut264 : ∀ (f3 bl3 lk3 tp3 w3 : Nat) (r3 : List (List Int32)) (m3 : sp_M), f3 < n → lk3 ≤ 20 → tp3 ≤ lk3 + 1 → sp_V B m0 m3 D R l0 l1 d n b p t e n w3 vq vm vl vs vA vE → sp_Qp m3 B t tp3 → sp_rk B [34, 36, 37] m m3 → sp_ps m3 B tp3 + 43 * (20 - lk3) < sp_ps m1 B tp1 + 43 * (20 - lk) → sp_pl m3 B R TT t tp3 r3 → bl3 + r3.length ≤ 100 + 20 * (lk3 + 1) → (∀ v9, pu_LG R n T (pu_tp R TT) (pu_tf R TT) (f3, bl3, lk3, r3) v9 → pu_LG R n T (pu_tp R TT) (pu_tf R TT) (fz, y0, 0, pu_tp R TT g) v9) → w 0 0 m3 264 [(0, false, va_rf (some (B 0))), (4, false, .int (nI f3)), (5, false, .int (nI bl3)), (6, false, .int (nI lk3))] [] := by
            intro f3 bl3 lk3 tp3 w3 r3 m3 hf3 hlk3 htp3 hVm3 hQ3 hr3 hs3 hpl3 hbl3 hL3
            refine sp_aload_n X (pc := 264) (r := some (B 0)) dX12_leads_264 rfl rfl ?_
            refine sp_iload X (pc := 265) (x := nI f3) dX12_leads_265 rfl ?_
            refine sp_callV X (pc := 267) (mc := 0) (ms := 0) (b := (B 0)) (c := 13) (r := some (B 0)) (As := [.int (nI f3)]) (rest := []) (c_Mo_isInside l G _ hVm3 (hMN.rk hr3 (by decide)) hW hf3) ok_Mo_isInside rfl hVm3.r.o (by decide) rfl lk_Mo_165 rfl rfl (Nat.zero_le _) (Nat.le_of_ble_eq_true rfl) (Nat.le_of_ble_eq_true rfl) (Nat.zero_le _) (Nat.zero_le _) dX12_leads_267 (sp_kI fun v267 m267 hp267 => ?_)
            obtain ⟨hp267, hp267m⟩ := hp267; replace hp267m := (hp267m).symm; subst hp267m
            refine sp_if_ne X (pc := 270) (tgt := 73) dX12_leads_270 (by decide) (fun hb270 => ?_) (fun hb270 => ?_)
            · exact ih _ (by omega) _ _ _ _ _ _ _ hf3 hlk3 htp3 hVm3 hQ3 hr3 hpl3 (hp267.ne hb270) hbl3 hL3 rfl
            · refine sp_iconst X (pc := 273) (v := (-1)) dX12_leads_273 (by decide) ?_
              refine sp_ireturn X (pc := 274) dX12_leads_274 rfl ⟨_, rfl, ?_⟩
              exact ⟨⟨_, hVm3, hr3⟩, fz, hff, hL3 _ (pu_LG.end_ (Or.inl ⟨hp267.eq hb270, rfl⟩))⟩
          refine sp_aload_n X (pc := 73) (r := some (B 0)) dX12_leads_73 rfl rfl ?_
          refine sp_callV X (pc := 74) (mc := 0) (ms := 0) (b := (B 0)) (c := 13) (r := some (B 0)) (As := []) (rest := []) (c_Mo_nextWord l G _ hVm1 (hMT.rk hr1 (by decide) (by decide)) hTl hQ1 hpl1) ok_Mo_nextWord rfl hVm1.r.o (by decide) rfl lk_Mo_168 rfl rfl (Nat.zero_le _) (Nat.le_of_ble_eq_true rfl) (Nat.le_of_ble_eq_true rfl) (Nat.zero_le _) (Nat.zero_le _) dX12_leads_74 (sp_kI fun v74 m74 hp74 => ?_)
          obtain ⟨w74, tp74, hVm74, hQ74, hr74, ht74, hb74, hs74, he74, hw74⟩ := hp74
          have hrk := hr1.trans hr74
          have hMN74 := hMN.rk hrk (by decide)
          refine sp_if_eq X (pc := 77) (tgt := 275) dX12_leads_77 (by decide) (fun hb77 => ?_) (fun hb77 => ?_)
          · have hr0 : r9 = [] := he74 hb77
            refine sp_iload X (pc := 275) (x := nI bl) dX12_leads_275 rfl ?_
            refine sp_if_le X (pc := 277) (tgt := 285) dX12_leads_277 (by decide) (fun hb277 => ?_) (fun hb277 => ?_)
            · refine sp_iload X (pc := 285) (x := nI f) dX12_leads_285 rfl ?_
              refine sp_ireturn X (pc := 287) dX12_leads_287 rfl ⟨_, rfl, ?_⟩
              first
                | exact ⟨⟨_, hVm74, hrk⟩, fz, hff, hLG _ (pu_LG.end_ (Or.inr (Or.inl ⟨hin, hr0, Or.inl ⟨sp_nlt (b := bl) (a := 0) hb277 (by omega), rfl⟩⟩)))⟩
                | (have hbz : bl = 0 := by
                     have := sp_nge (b := bl) (a := 0) hb277 (by omega) (by omega)
                     omega
                   exact ⟨⟨_, hVm74, hrk⟩, fz, hff, hLG _ (pu_LG.end_ (Or.inr (Or.inl ⟨hin, hr0, Or.inr ⟨hbz, rfl⟩⟩)))⟩)
            · refine sp_bipush X (pc := 280) (v := (-2)) dX12_leads_280 (by decide) ?_
              refine sp_goto X (pc := 282) (tgt := 287) dX12_leads_282 (by decide) ?_
              refine sp_ireturn X (pc := 287) dX12_leads_287 rfl ⟨_, rfl, ?_⟩
              first
                | exact ⟨⟨_, hVm74, hrk⟩, fz, hff, hLG _ (pu_LG.end_ (Or.inr (Or.inl ⟨hin, hr0, Or.inl ⟨sp_nlt (b := bl) (a := 0) hb277 (by omega), rfl⟩⟩)))⟩
                | (have hbz : bl = 0 := by
                     have := sp_nge (b := bl) (a := 0) hb277 (by omega) (by omega)
                     omega
                   exact ⟨⟨_, hVm74, hrk⟩, fz, hff, hLG _ (pu_LG.end_ (Or.inr (Or.inl ⟨hin, hr0, Or.inr ⟨hbz, rfl⟩⟩)))⟩)
          · have hv1 : v74 = 1 := by rcases hb74 with z | z; exact absurd z hb77; exact z
            have hs : sp_ps m74 B tp74 < sp_ps m1 B tp1 := hs74 hv1
            obtain ⟨u9, r8, hr9, hpl8, hwu, hw1⟩ := hw74 hv1
            have hlen : r9.length = r8.length + 1 := by rw [hr9]; rfl
            have hgo : ∀ s8, pu_s1 R n T (pu_tp R TT) (pu_tf R TT) f bl lk u9 r8 (.inl s8) → ∀ v9, pu_LG R n T (pu_tp R TT) (pu_tf R TT) s8 v9 → pu_LG R n T (pu_tp R TT) (pu_tf R TT) (fz, y0, 0, pu_tp R TT g) v9 := fun s8 h8 v9 h9 => hLG v9 (pu_LG.go (Or.inr (Or.inr ⟨hin, u9, r8, hr9, h8⟩)) h9)
            have hst : ∀ v9, pu_s1 R n T (pu_tp R TT) (pu_tf R TT) f bl lk u9 r8 (.inr v9) → pu_LG R n T (pu_tp R TT) (pu_tf R TT) (fz, y0, 0, pu_tp R TT g) v9 := fun v9 h8 => hLG v9 (pu_LG.end_ (Or.inr (Or.inr ⟨hin, u9, r8, hr9, h8⟩)))
            refine sp_iload X (pc := 80) (x := nI bl) dX12_leads_80 rfl ?_
            refine sp_if_le X (pc := 82) (tgt := 105) dX12_leads_82 (by decide) (fun hb82 => ?_) (fun hb82 => ?_)
            · have hbl0 : bl = 0 := by
                have := sp_nge (b := bl) (a := 0) hb82 (by omega) (by omega)
                omega
              refine sp_aload_n X (pc := 105) (r := some (B 0)) dX12_leads_105 rfl rfl ?_
              refine sp_callV X (pc := 106) (mc := 0) (ms := 0) (b := (B 0)) (c := 13) (r := some (B 0)) (As := []) (rest := []) (c_Mo_isUp l G _ hVm74) ok_Mo_isUp rfl hVm74.r.o (by decide) rfl lk_Mo_139 rfl rfl (Nat.zero_le _) (Nat.le_of_ble_eq_true rfl) (Nat.le_of_ble_eq_true rfl) (Nat.zero_le _) (Nat.zero_le _) dX12_leads_106 (sp_kI fun v106 m106 hp106 => ?_)
              obtain ⟨hp106, hp106m⟩ := hp106; replace hp106m := (hp106m).symm; subst hp106m
              rw [hwu] at hp106
              refine sp_if_eq X (pc := 109) (tgt := 124) dX12_leads_109 (by decide) (fun hb109 => ?_) (fun hb109 => ?_)
              · refine sp_aload_n X (pc := 124) (r := some (B 0)) dX12_leads_124 rfl rfl ?_
                refine sp_iload X (pc := 125) (x := nI f) dX12_leads_125 rfl ?_
                refine sp_callV X (pc := 127) (mc := 0) (ms := 0) (b := (B 0)) (c := 13) (r := some (B 0)) (As := [.int (nI f)]) (rest := []) (c_Mo_in l G _ hVm74 hMN74 hW hf1 hw1) ok_Mo_in rfl hVm74.r.o (by decide) rfl lk_Mo_171 rfl rfl (Nat.zero_le _) (Nat.le_of_ble_eq_true rfl) (Nat.le_of_ble_eq_true rfl) (Nat.zero_le _) (Nat.zero_le _) dX12_leads_127 (sp_kI fun v127 m127 hp127 => ?_)
                obtain ⟨hp127, hp127m⟩ := hp127; replace hp127m := (hp127m).symm; subst hp127m
                rw [hwu] at hp127
                obtain ⟨o9, ho9, hv127⟩ := hp127
                refine sp_istore X (pc := 130) (lv' := [(7, false, .int v127), (0, false, va_rf (some (B 0))), (4, false, .int (nI f)), (5, false, .int (nI bl)), (6, false, .int (nI lk))]) dX12_leads_130  (by decide) rfl ?_
                refine sp_iload X (pc := 132) (x := v127) dX12_leads_132 rfl ?_
                refine sp_iconst X (pc := 134) (v := (-1)) dX12_leads_134 (by decide) ?_
                refine sp_icmp_ne X (pc := 135) (tgt := 144) dX12_leads_135 (by decide) (fun hb135 => ?_) (fun hb135 => ?_)
                · have hj0 : ∃ j, o9 = some j ∧ v127 = nI j := by
                    rcases hv127 with ⟨-, z⟩ | z
                    · exact absurd z hb135
                    · exact z
                  obtain ⟨j, rfl, rfl⟩ := hj0
                  have hj := ho9.lt.1
                  obtain ⟨n1, n2, n3, n4, n5, -⟩ := hMN74.1 j hj
                  have hgo2 : ∀ s8, pu_s2 T (pu_tp R TT) (pu_tf R TT) f lk r8 (some j) (.inl s8) → ∀ v9, pu_LG R n T (pu_tp R TT) (pu_tf R TT) s8 v9 → pu_LG R n T (pu_tp R TT) (pu_tf R TT) (fz, y0, 0, pu_tp R TT g) v9 := fun s8 h8 => hgo s8 (Or.inr (Or.inr (Or.inr ⟨hbl0, hp106.eq hb109, _, ho9, h8⟩)))
                  have hst2 : ∀ v9, pu_s2 T (pu_tp R TT) (pu_tf R TT) f lk r8 (some j) (.inr v9) → pu_LG R n T (pu_tp R TT) (pu_tf R TT) (fz, y0, 0, pu_tp R TT g) v9 := fun v9 h8 => hst v9 (Or.inr (Or.inr (Or.inr ⟨hbl0, hp106.eq hb109, _, ho9, h8⟩)))
                  refine sp_aload_n X (pc := 144) (r := some (B 0)) dX12_leads_144 rfl rfl ?_
                  refine sp_getfield X (pc := 145) (c := 13) (i := 4) (t := 2) (a := (B 0)) (v := va_rf (some (B 4))) rfl hVm74.r.o (by decide) rfl (congrArg va_rf hVm74.f4) fl_Mo_13 dX12_leads_145 ?_
                  refine sp_iload X (pc := 148) (x := (nI j)) dX12_leads_148 rfl ?_
                  refine sp_iaload X (pc := 150) (a := (B 4)) rfl (Or.inl hVm74.y4) (sp_in j hVm74.l4 (by omega) (by decide)) dX12_leads_150 ?_
                  rw [show (m74.aI (B 4) (nI j).toNatClampNeg) = (m74.aI (B 4) j) from (congrArg _ (nI_clamp (n := j) (by omega)))]
                  rw [show (m74.aI (B 4) j) = (T.k j) from n1]
                  refine sp_if_ne X (pc := 151) (tgt := 161) dX12_leads_151 (by decide) (fun hb151 => ?_) (fun hb151 => ?_)
                  · refine sp_aload_n X (pc := 161) (r := some (B 0)) dX12_leads_161 rfl rfl ?_
                    refine sp_getfield X (pc := 162) (c := 13) (i := 4) (t := 2) (a := (B 0)) (v := va_rf (some (B 4))) rfl hVm74.r.o (by decide) rfl (congrArg va_rf hVm74.f4) fl_Mo_13 dX12_leads_162 ?_
                    refine sp_iload X (pc := 165) (x := (nI j)) dX12_leads_165 rfl ?_
                    refine sp_iaload X (pc := 167) (a := (B 4)) rfl (Or.inl hVm74.y4) (sp_in j hVm74.l4 (by omega) (by decide)) dX12_leads_167 ?_
                    rw [show (m74.aI (B 4) (nI j).toNatClampNeg) = (m74.aI (B 4) j) from (congrArg _ (nI_clamp (n := j) (by omega)))]
                    rw [show (m74.aI (B 4) j) = (T.k j) from n1]
                    refine sp_iconst X (pc := 168) (v := 2) dX12_leads_168 (by decide) ?_
                    refine sp_icmp_ne X (pc := 169) (tgt := 249) dX12_leads_169 (by decide) (fun hb169 => ?_) (fun hb169 => ?_)
                    · refine sp_aload_n X (pc := 249) (r := some (B 0)) dX12_leads_249 rfl rfl ?_
                      refine sp_callV X (pc := 250) (mc := 0) (ms := 0) (b := (B 0)) (c := 13) (r := some (B 0)) (As := []) (rest := []) (c_Mo_isLeft l G _ hVm74 (hMT.rk hrk (by decide) (by decide)) hTl hQ74 hpl8) ok_Mo_isLeft rfl hVm74.r.o (by decide) rfl lk_Mo_174 rfl rfl (Nat.zero_le _) (Nat.le_of_ble_eq_true rfl) (Nat.le_of_ble_eq_true rfl) (Nat.zero_le _) (Nat.zero_le _) dX12_leads_250 (sp_kI fun v250 m250 hp250 => ?_)
                      obtain ⟨hp250, hp250m⟩ := hp250; replace hp250m := (hp250m).symm; subst hp250m
                      refine sp_if_eq X (pc := 253) (tgt := 261) dX12_leads_253 (by decide) (fun hb253 => ?_) (fun hb253 => ?_)
                      · refine sp_iload X (pc := 261) (x := (nI j)) dX12_leads_261 rfl ?_
                        refine sp_ireturn X (pc := 263) dX12_leads_263 rfl ⟨_, rfl, ?_⟩
                        have hkk : ¬ T.k j = 0 ∧ ¬ (T.k j = 2 ∧ T.d j = 0) := ⟨hb151, fun z => by first | exact hb169 z.1 | exact hb179 z.2⟩
                        first
                          | exact ⟨⟨_, hVm74, hrk⟩, fz, hff, hst2 _ (Or.inr ⟨j, rfl, Or.inr (Or.inr ⟨hkk, Or.inr ⟨hp250.ne hb253, rfl⟩⟩)⟩)⟩
                          | exact ⟨⟨_, hVm74, hrk⟩, fz, hff, hst2 _ (Or.inr ⟨j, rfl, Or.inr (Or.inr ⟨hkk, Or.inl ⟨Classical.byContradiction (hp250.eq hb253), rfl⟩⟩)⟩)⟩
                      · refine sp_bipush X (pc := 256) (v := (-2)) dX12_leads_256 (by decide) ?_
                        refine sp_goto X (pc := 258) (tgt := 263) dX12_leads_258 (by decide) ?_
                        refine sp_ireturn X (pc := 263) dX12_leads_263 rfl ⟨_, rfl, ?_⟩
                        have hkk : ¬ T.k j = 0 ∧ ¬ (T.k j = 2 ∧ T.d j = 0) := ⟨hb151, fun z => by first | exact hb169 z.1 | exact hb179 z.2⟩
                        first
                          | exact ⟨⟨_, hVm74, hrk⟩, fz, hff, hst2 _ (Or.inr ⟨j, rfl, Or.inr (Or.inr ⟨hkk, Or.inr ⟨hp250.ne hb253, rfl⟩⟩)⟩)⟩
                          | exact ⟨⟨_, hVm74, hrk⟩, fz, hff, hst2 _ (Or.inr ⟨j, rfl, Or.inr (Or.inr ⟨hkk, Or.inl ⟨Classical.byContradiction (hp250.eq hb253), rfl⟩⟩)⟩)⟩
                    · refine sp_aload_n X (pc := 172) (r := some (B 0)) dX12_leads_172 rfl rfl ?_
                      refine sp_getfield X (pc := 173) (c := 13) (i := 6) (t := 2) (a := (B 0)) (v := va_rf (some (B 6))) rfl hVm74.r.o (by decide) rfl (congrArg va_rf hVm74.f6) fl_Mo_20 dX12_leads_173 ?_
                      refine sp_iload X (pc := 176) (x := (nI j)) dX12_leads_176 rfl ?_
                      refine sp_baload X (pc := 178) (a := (B 6)) rfl hVm74.y6 (sp_in j hVm74.l6 (by omega) (by decide)) dX12_leads_178 ?_
                      rw [show (m74.aI (B 6) (nI j).toNatClampNeg) = (m74.aI (B 6) j) from (congrArg _ (nI_clamp (n := j) (by omega)))]
                      rw [show (m74.aI (B 6) j) = (T.d j) from n3]
                      refine sp_if_ne X (pc := 179) (tgt := 249) dX12_leads_179 (by decide) (fun hb179 => ?_) (fun hb179 => ?_)
                      · refine sp_aload_n X (pc := 249) (r := some (B 0)) dX12_leads_249 rfl rfl ?_
                        refine sp_callV X (pc := 250) (mc := 0) (ms := 0) (b := (B 0)) (c := 13) (r := some (B 0)) (As := []) (rest := []) (c_Mo_isLeft l G _ hVm74 (hMT.rk hrk (by decide) (by decide)) hTl hQ74 hpl8) ok_Mo_isLeft rfl hVm74.r.o (by decide) rfl lk_Mo_174 rfl rfl (Nat.zero_le _) (Nat.le_of_ble_eq_true rfl) (Nat.le_of_ble_eq_true rfl) (Nat.zero_le _) (Nat.zero_le _) dX12_leads_250 (sp_kI fun v250 m250 hp250 => ?_)
                        obtain ⟨hp250, hp250m⟩ := hp250; replace hp250m := (hp250m).symm; subst hp250m
                        refine sp_if_eq X (pc := 253) (tgt := 261) dX12_leads_253 (by decide) (fun hb253 => ?_) (fun hb253 => ?_)
                        · refine sp_iload X (pc := 261) (x := (nI j)) dX12_leads_261 rfl ?_
                          refine sp_ireturn X (pc := 263) dX12_leads_263 rfl ⟨_, rfl, ?_⟩
                          have hkk : ¬ T.k j = 0 ∧ ¬ (T.k j = 2 ∧ T.d j = 0) := ⟨hb151, fun z => by first | exact hb169 z.1 | exact hb179 z.2⟩
                          first
                            | exact ⟨⟨_, hVm74, hrk⟩, fz, hff, hst2 _ (Or.inr ⟨j, rfl, Or.inr (Or.inr ⟨hkk, Or.inr ⟨hp250.ne hb253, rfl⟩⟩)⟩)⟩
                            | exact ⟨⟨_, hVm74, hrk⟩, fz, hff, hst2 _ (Or.inr ⟨j, rfl, Or.inr (Or.inr ⟨hkk, Or.inl ⟨Classical.byContradiction (hp250.eq hb253), rfl⟩⟩)⟩)⟩
                        · refine sp_bipush X (pc := 256) (v := (-2)) dX12_leads_256 (by decide) ?_
                          refine sp_goto X (pc := 258) (tgt := 263) dX12_leads_258 (by decide) ?_
                          refine sp_ireturn X (pc := 263) dX12_leads_263 rfl ⟨_, rfl, ?_⟩
                          have hkk : ¬ T.k j = 0 ∧ ¬ (T.k j = 2 ∧ T.d j = 0) := ⟨hb151, fun z => by first | exact hb169 z.1 | exact hb179 z.2⟩
                          first
                            | exact ⟨⟨_, hVm74, hrk⟩, fz, hff, hst2 _ (Or.inr ⟨j, rfl, Or.inr (Or.inr ⟨hkk, Or.inr ⟨hp250.ne hb253, rfl⟩⟩)⟩)⟩
                            | exact ⟨⟨_, hVm74, hrk⟩, fz, hff, hst2 _ (Or.inr ⟨j, rfl, Or.inr (Or.inr ⟨hkk, Or.inl ⟨Classical.byContradiction (hp250.eq hb253), rfl⟩⟩)⟩)⟩
                      · refine sp_iload X (pc := 182) (x := nI lk) dX12_leads_182 rfl ?_
                        refine sp_bipush X (pc := 184) (v := 20) dX12_leads_184 (by decide) ?_
                        refine sp_icmp_ne X (pc := 186) (tgt := 192) dX12_leads_186 (by decide) (fun hb186 => ?_) (fun hb186 => ?_)
                        · have hlk2 : lk < 20 := by
                            have : lk ≠ 20 := fun z => hb186 (by rw [z]; rfl)
                            omega
                          have hq := hMN74.2.2 j hj hb151
                          have hq1 : T.h j < t := by
                            rcases hW.2.2.2.1 j hj with z | ⟨z, -⟩ | ⟨-, z⟩
                            · rw [hb169] at z; exact absurd z (by decide)
                            · rw [hb169] at z; exact absurd z (by decide)
                            · exact z
                          refine sp_iinc X (pc := 192) (v := (nI (lk + 1))) (lv' := [(6, false, .int (nI (lk + 1))), (7, false, .int (nI j)), (0, false, va_rf (some (B 0))), (4, false, .int (nI f)), (5, false, .int (nI bl))]) dX12_leads_192 rfl ((sp_i1 lk)) (by decide) rfl ?_
                          refine sp_aload_n X (pc := 195) (r := some (B 0)) dX12_leads_195 rfl rfl ?_
                          refine sp_getfield X (pc := 196) (c := 13) (i := 36) (t := 2) (a := (B 0)) (v := va_rf (some (B 36))) rfl hVm74.r.o (by decide) rfl (congrArg va_rf hVm74.f36) fl_Mo_89 dX12_leads_196 ?_
                          refine sp_aload_n X (pc := 199) (r := some (B 0)) dX12_leads_199 rfl rfl ?_
                          refine sp_getfield X (pc := 200) (c := 13) (i := 38) (t := 0) (a := (B 0)) (v := .int (nI tp74)) rfl hVm74.r.o (by decide) rfl (congrArg Value.int hQ74.1) fl_Mo_159 dX12_leads_200 ?_
                          refine sp_aload_n X (pc := 203) (r := some (B 0)) dX12_leads_203 rfl rfl ?_
                          refine sp_getfield X (pc := 204) (c := 13) (i := 9) (t := 2) (a := (B 0)) (v := va_rf (some (B 9))) rfl hVm74.r.o (by decide) rfl (congrArg va_rf hVm74.f9) fl_Mo_29 dX12_leads_204 ?_
                          refine sp_iload X (pc := 207) (x := (nI j)) dX12_leads_207 rfl ?_
                          refine sp_iaload X (pc := 209) (a := (B 9)) rfl (Or.inl hVm74.y9) (sp_in j hVm74.l9 (by omega) (by decide)) dX12_leads_209 ?_
                          rw [show (m74.aI (B 9) (nI j).toNatClampNeg) = (m74.aI (B 9) j) from (congrArg _ (nI_clamp (n := j) (by omega)))]
                          rw [show (m74.aI (B 9) j) = (nI (T.h j)) from hq]
                          refine sp_iastore X (pc := 210) (a := (B 36)) rfl hVm74.y36 (sp_in tp74 hVm74.l36 (by omega) (by decide))  dX12_leads_210 ?_
                          rw [show (nI tp74).toNatClampNeg = tp74 from (nI_clamp (n := tp74) (by omega))]
                          obtain ⟨m210, hm210⟩ : ∃ xm, xm = (m74.sI (B 36) tp74 (nI (T.h j))) := ⟨_, rfl⟩
                          rw [← hm210]
                          have hVm210 : sp_V B m0 m210 D R l0 l1 d n b p t e n w74 vq vm vl vs vA vE := by
                            rw [hm210]
                            exact hVm74.sI 36 tp74 _ (by decide) (by decide) (Nat.zero_le _)
                          have t210 : m210.fI 870 (B 0) = nI tp74 := by
                            rw [hm210]
                            exact hQ74.1
                          have q210 : m210.aI (B 9) j = nI (T.h j) := by
                            rw [hm210]
                            rw [sp_sI_aI, if_neg (fun z => hVm74.ne 9 36 (by decide) (by decide) (by decide) z.1)]; exact hq
                          have r210 : sp_rk B [34, 36, 37] m m210 := by
                            rw [hm210]
                            exact hrk.sI hVm74.r 36 _ _ (by decide) (by decide)
                          refine sp_aload_n X (pc := 211) (r := some (B 0)) dX12_leads_211 rfl rfl ?_
                          refine sp_getfield X (pc := 212) (c := 13) (i := 37) (t := 2) (a := (B 0)) (v := va_rf (some (B 37))) rfl hVm210.r.o (by decide) rfl (congrArg va_rf hVm210.f37) fl_Mo_92 dX12_leads_212 ?_
                          refine sp_aload_n X (pc := 215) (r := some (B 0)) dX12_leads_215 rfl rfl ?_
                          refine sp_getfield X (pc := 216) (c := 13) (i := 38) (t := 0) (a := (B 0)) (v := .int (nI tp74)) rfl hVm210.r.o (by decide) rfl (congrArg Value.int t210) fl_Mo_159 dX12_leads_216 ?_
                          refine sp_iconst X (pc := 219) (v := 0) dX12_leads_219 (by decide) ?_
                          refine sp_iastore X (pc := 220) (a := (B 37)) rfl hVm210.y37 (sp_in tp74 hVm210.l37 (by omega) (by decide))  dX12_leads_220 ?_
                          rw [show (nI tp74).toNatClampNeg = tp74 from (nI_clamp (n := tp74) (by omega))]
                          obtain ⟨m220, hm220⟩ : ∃ xm, xm = (m210.sI (B 37) tp74 0) := ⟨_, rfl⟩
                          rw [← hm220]
                          have hVm220 : sp_V B m0 m220 D R l0 l1 d n b p t e n w74 vq vm vl vs vA vE := by
                            rw [hm220]
                            exact hVm210.sI 37 tp74 _ (by decide) (by decide) (Nat.zero_le _)
                          have t220 : m220.fI 870 (B 0) = nI tp74 := by
                            rw [hm220]
                            exact t210
                          have q220 : m220.aI (B 9) j = nI (T.h j) := by
                            rw [hm220]
                            rw [sp_sI_aI, if_neg (fun z => hVm74.ne 9 37 (by decide) (by decide) (by decide) z.1)]; exact q210
                          have r220 : sp_rk B [34, 36, 37] m m220 := by
                            rw [hm220]
                            exact r210.sI hVm210.r 37 _ _ (by decide) (by decide)
                          refine sp_aload_n X (pc := 221) (r := some (B 0)) dX12_leads_221 rfl rfl ?_
                          refine sp_dup X (pc := 222) dX12_leads_222 (sp_cat_rf _) ?_
                          refine sp_getfield X (pc := 223) (c := 13) (i := 38) (t := 0) (a := (B 0)) (v := .int (nI tp74)) rfl hVm220.r.o (by decide) rfl (congrArg Value.int t220) fl_Mo_159 dX12_leads_223 ?_
                          refine sp_iconst X (pc := 226) (v := 1) dX12_leads_226 (by decide) ?_
                          refine sp_iadd X (pc := 227) dX12_leads_227 ?_
                          rw [show ((nI tp74) + 1) = (nI (tp74 + 1)) from (nI_add tp74 1)]
                          refine sp_putI X (pc := 228) (c := 13) (i := 38) (q := 870) (a := (B 0)) rfl hVm220.r.o (by decide) rfl rfl (Or.inl rfl) ⟨rfl, rfl⟩ fl_Mo_159 dX12_leads_228 ?_
                          obtain ⟨m228, hm228⟩ : ∃ xm, xm = (m220.pI 870 (B 0) (nI (tp74 + 1))) := ⟨_, rfl⟩
                          rw [← hm228]
                          have hVm228 : sp_V B m0 m228 D R l0 l1 d n b p t e n w74 vq vm vl vs vA vE := by
                            rw [hm228]
                            exact hVm220.pI (k := 870) _ (by decide)
                          have hQ228 : sp_Qp m228 B t (tp74 + 1) ∧ sp_ps m228 B (tp74 + 1) = sp_ps m74 B tp74 + 42 := by
                            rw [hm228]
                            rw [hm220, hm210]
                            exact hQ74.push hVm74.r hq1 (by omega)
                          have q228 : m228.aI (B 9) j = nI (T.h j) := by
                            rw [hm228]
                            exact q220
                          have r228 : sp_rk B [34, 36, 37] m m228 := by
                            rw [hm228]
                            exact r220
                          have pl228 : sp_pl m228 B R TT t (tp74 + 1) (pu_tp R TT (T.h j) ++ r8) := by
                            rw [hm228]
                            have n36 : B 36 ≠ B 37 := hVm74.ne 36 37 (by decide) (by decide) (by decide)
                            refine hpl8.push (fun i hi => ?_) ?_ ?_ hq1 (hTU _ hq1)
                            · rw [hm220, hm210]
                              show ((m74.sI (B 36) tp74 (nI (T.h j))).sI (B 37) tp74 0).aI (B 36) i = _ ∧ ((m74.sI (B 36) tp74 (nI (T.h j))).sI (B 37) tp74 0).aI (B 37) i = _
                              rw [sp_sI_aI, if_neg (fun z => n36 z.1), sp_sI_aI, if_neg (by omega), sp_sI_aI, if_neg (by omega), sp_sI_aI, if_neg (fun z => n36 z.1.symm)]
                              exact ⟨rfl, rfl⟩
                            · rw [hm220, hm210]
                              show ((m74.sI (B 36) tp74 (nI (T.h j))).sI (B 37) tp74 0).aI (B 36) tp74 = _
                              rw [sp_sI_aI, if_neg (fun z => n36 z.1), sp_sI_aI, if_pos ⟨rfl, rfl⟩]
                            · rw [hm220]
                              show (m210.sI (B 37) tp74 0).aI (B 37) tp74 = _
                              rw [sp_sI_aI, if_pos ⟨rfl, rfl⟩]
                              rfl
                          refine sp_aload_n X (pc := 231) (r := some (B 0)) dX12_leads_231 rfl rfl ?_
                          refine sp_aload_n X (pc := 232) (r := some (B 0)) dX12_leads_232 rfl rfl ?_
                          refine sp_getfield X (pc := 233) (c := 13) (i := 9) (t := 2) (a := (B 0)) (v := va_rf (some (B 9))) rfl hVm228.r.o (by decide) rfl (congrArg va_rf hVm228.f9) fl_Mo_29 dX12_leads_233 ?_
                          refine sp_iload X (pc := 236) (x := (nI j)) dX12_leads_236 rfl ?_
                          refine sp_iaload X (pc := 238) (a := (B 9)) rfl (Or.inl hVm228.y9) (sp_in j hVm228.l9 (by omega) (by decide)) dX12_leads_238 ?_
                          rw [show (m228.aI (B 9) (nI j).toNatClampNeg) = (m228.aI (B 9) j) from (congrArg _ (nI_clamp (n := j) (by omega)))]
                          rw [show (m228.aI (B 9) j) = (nI (T.h j)) from q228]
                          refine sp_iload X (pc := 239) (x := nI f) dX12_leads_239 rfl ?_
                          refine sp_callV X (pc := 241) (mc := 0) (ms := 0) (b := (B 0)) (c := 13) (r := some (B 0)) (As := [.int (nI (T.h j)), .int (nI f)]) (rest := []) (c_Mo_startOf l G _ hVm228 hq1 (hMT.rk r228 (by decide) (by decide)) hTl) ok_Mo_startOf rfl hVm228.r.o (by decide) rfl lk_Mo_162 rfl rfl (Nat.zero_le _) (Nat.le_of_ble_eq_true rfl) (Nat.le_of_ble_eq_true rfl) (Nat.zero_le _) (Nat.zero_le _) dX12_leads_241 (sp_kI fun v241 m241 hp241 => ?_)
                          obtain ⟨hp241, hp241m⟩ := hp241; replace hp241m := (hp241m).symm; subst hp241m
                          have hz241 : ∃ f2, v241 = nI f2 ∧ f2 < n ∧ ((pu_tf R TT (T.h j) ∧ f2 = 0) ∨ (¬ pu_tf R TT (T.h j) ∧ f2 = f)) := by
                            rcases hp241 with ⟨y, z⟩ | ⟨y, z⟩
                            · exact ⟨0, z, by omega, Or.inl ⟨y, rfl⟩⟩
                            · exact ⟨f, z, hf1, Or.inr ⟨y, rfl⟩⟩
                          obtain ⟨f2, rfl, hf2, hff2⟩ := hz241
                          have hfe2 := hfew _ hq1
                          have hLG2 : ∀ v9, pu_LG R n T (pu_tp R TT) (pu_tf R TT) (f2, 0, lk + 1, pu_tp R TT (T.h j) ++ r8) v9 → pu_LG R n T (pu_tp R TT) (pu_tf R TT) (fz, y0, 0, pu_tp R TT g) v9 := hgo2 _ (Or.inr ⟨j, rfl, Or.inr (Or.inl ⟨hb169, hb179, Or.inr ⟨hlk2, by
                            rcases hff2 with ⟨y, rfl⟩ | ⟨y, rfl⟩
                            · exact Or.inl ⟨y, rfl⟩
                            · exact Or.inr ⟨y, rfl⟩⟩⟩)⟩)
                          refine sp_istore X (pc := 244) (lv' := [(4, false, .int (nI f2)), (6, false, .int (nI (lk + 1))), (7, false, .int (nI j)), (0, false, va_rf (some (B 0))), (5, false, .int (nI bl))]) dX12_leads_244  (by decide) rfl ?_
                          refine sp_goto X (pc := 246) (tgt := 264) dX12_leads_246 (by decide) ?_
                          refine sp_pick X [3, 0, 4, 1] (lv' := [(0, false, va_rf (some (B 0))), (4, false, .int (nI f2)), (5, false, .int (nI bl)), (6, false, .int (nI (lk + 1)))]) rfl ?_
                          first
                            | (rw [hbl0]
                               exact cut264 f2 0 (lk + 1) (tp74 + 1) _ _ _ hf2 (by omega) (by omega) hVm228 hQ228.1 r228 (by have := hQ228.2; omega) pl228 (by rw [List.length_append]; omega) hLG2)
                            | exact cut264 f (bl - 1) lk tp74 _ _ _ hf1 hlk (by omega) hVm74 hQ74 hrk (by omega) hpl8 (by omega) (hgo _ (Or.inl ⟨hbl0, hp88.ne hb91, rfl⟩))
                            | exact cut264 f (bl + 1) lk tp74 _ _ _ hf1 hlk (by omega) hVm74 hQ74 hrk (by omega) hpl8 (by omega) (hgo _ (Or.inr (Or.inl ⟨hbl0, hp88.eq hb91, rfl⟩)))
                            | (rw [hbl0]
                               exact cut264 (T.o f) 0 lk tp74 _ _ _ (hW.lt hf1) hlk (by omega) hVm74 hQ74 hrk (by omega) hpl8 (by omega) (hgo _ (Or.inr (Or.inr (Or.inl ⟨hbl0, hp106.ne hb109, rfl⟩)))))
                            | exact cut264 f 1 lk tp74 _ _ _ hf1 hlk (by omega) hVm74 hQ74 hrk (by omega) hpl8 (by omega) (hgo _ (Or.inr (Or.inr (Or.inr ⟨hbl0, hp106.eq hb109, _, ho9, Or.inl ⟨hon, rfl⟩⟩))))
                            | (rw [hbl0]
                               exact cut264 j 0 lk tp74 _ _ _ hj hlk (by omega) hVm74 hQ74 hrk (by omega) hpl8 (by omega) (hgo2 _ (Or.inr ⟨j, rfl, Or.inl ⟨hb151, rfl⟩⟩)))
                        · refine sp_bipush X (pc := 189) (v := (-3)) dX12_leads_189 (by decide) ?_
                          refine sp_ireturn X (pc := 191) dX12_leads_191 rfl ⟨_, rfl, ?_⟩
                          exact ⟨⟨_, hVm74, hrk⟩, fz, hff, hst2 _ (Or.inr ⟨j, rfl, Or.inr (Or.inl ⟨hb169, hb179, Or.inl ⟨by have := sp_neq (b := 20) hb186 (by omega) (by decide); omega, rfl⟩⟩)⟩)⟩
                  · refine sp_iload X (pc := 154) (x := (nI j)) dX12_leads_154 rfl ?_
                    refine sp_istore X (pc := 156) (lv' := [(4, false, .int (nI j)), (7, false, .int (nI j)), (0, false, va_rf (some (B 0))), (5, false, .int (nI bl)), (6, false, .int (nI lk))]) dX12_leads_156  (by decide) rfl ?_
                    refine sp_goto X (pc := 158) (tgt := 264) dX12_leads_158 (by decide) ?_
                    refine sp_pick X [2, 0, 3, 4] (lv' := [(0, false, va_rf (some (B 0))), (4, false, .int (nI j)), (5, false, .int (nI bl)), (6, false, .int (nI lk))]) rfl ?_
                    first
                      | (rw [hbl0]
                         exact cut264 f2 0 (lk + 1) (tp74 + 1) _ _ _ hf2 (by omega) (by omega) hVm228 hQ228.1 r228 (by have := hQ228.2; omega) pl228 (by rw [List.length_append]; omega) hLG2)
                      | exact cut264 f (bl - 1) lk tp74 _ _ _ hf1 hlk (by omega) hVm74 hQ74 hrk (by omega) hpl8 (by omega) (hgo _ (Or.inl ⟨hbl0, hp88.ne hb91, rfl⟩))
                      | exact cut264 f (bl + 1) lk tp74 _ _ _ hf1 hlk (by omega) hVm74 hQ74 hrk (by omega) hpl8 (by omega) (hgo _ (Or.inr (Or.inl ⟨hbl0, hp88.eq hb91, rfl⟩)))
                      | (rw [hbl0]
                         exact cut264 (T.o f) 0 lk tp74 _ _ _ (hW.lt hf1) hlk (by omega) hVm74 hQ74 hrk (by omega) hpl8 (by omega) (hgo _ (Or.inr (Or.inr (Or.inl ⟨hbl0, hp106.ne hb109, rfl⟩)))))
                      | exact cut264 f 1 lk tp74 _ _ _ hf1 hlk (by omega) hVm74 hQ74 hrk (by omega) hpl8 (by omega) (hgo _ (Or.inr (Or.inr (Or.inr ⟨hbl0, hp106.eq hb109, _, ho9, Or.inl ⟨hon, rfl⟩⟩))))
                      | (rw [hbl0]
                         exact cut264 j 0 lk tp74 _ _ _ hj hlk (by omega) hVm74 hQ74 hrk (by omega) hpl8 (by omega) (hgo2 _ (Or.inr ⟨j, rfl, Or.inl ⟨hb151, rfl⟩⟩)))
                · have hon : o9 = none := by
                    rcases hv127 with ⟨z, -⟩ | ⟨j, z0, z⟩
                    · exact z
                    · rw [z0] at ho9
                      have := ho9.lt.1
                      rw [z] at hb135; exact absurd hb135 (sp_nn9 (by omega))
                  refine sp_iconst X (pc := 138) (v := 1) dX12_leads_138 (by decide) ?_
                  refine sp_istore X (pc := 139) (lv' := [(5, false, .int 1), (7, false, .int v127), (0, false, va_rf (some (B 0))), (4, false, .int (nI f)), (6, false, .int (nI lk))]) dX12_leads_139  (by decide) rfl ?_
                  refine sp_goto X (pc := 141) (tgt := 264) dX12_leads_141 (by decide) ?_
                  refine sp_pick X [2, 3, 0, 4] (lv' := [(0, false, va_rf (some (B 0))), (4, false, .int (nI f)), (5, false, .int 1), (6, false, .int (nI lk))]) rfl ?_
                  first
                    | (rw [hbl0]
                       exact cut264 f2 0 (lk + 1) (tp74 + 1) _ _ _ hf2 (by omega) (by omega) hVm228 hQ228.1 r228 (by have := hQ228.2; omega) pl228 (by rw [List.length_append]; omega) hLG2)
                    | exact cut264 f (bl - 1) lk tp74 _ _ _ hf1 hlk (by omega) hVm74 hQ74 hrk (by omega) hpl8 (by omega) (hgo _ (Or.inl ⟨hbl0, hp88.ne hb91, rfl⟩))
                    | exact cut264 f (bl + 1) lk tp74 _ _ _ hf1 hlk (by omega) hVm74 hQ74 hrk (by omega) hpl8 (by omega) (hgo _ (Or.inr (Or.inl ⟨hbl0, hp88.eq hb91, rfl⟩)))
                    | (rw [hbl0]
                       exact cut264 (T.o f) 0 lk tp74 _ _ _ (hW.lt hf1) hlk (by omega) hVm74 hQ74 hrk (by omega) hpl8 (by omega) (hgo _ (Or.inr (Or.inr (Or.inl ⟨hbl0, hp106.ne hb109, rfl⟩)))))
                    | exact cut264 f 1 lk tp74 _ _ _ hf1 hlk (by omega) hVm74 hQ74 hrk (by omega) hpl8 (by omega) (hgo _ (Or.inr (Or.inr (Or.inr ⟨hbl0, hp106.eq hb109, _, ho9, Or.inl ⟨hon, rfl⟩⟩))))
                    | (rw [hbl0]
                       exact cut264 j 0 lk tp74 _ _ _ hj hlk (by omega) hVm74 hQ74 hrk (by omega) hpl8 (by omega) (hgo2 _ (Or.inr ⟨j, rfl, Or.inl ⟨hb151, rfl⟩⟩)))
              · refine sp_aload_n X (pc := 112) (r := some (B 0)) dX12_leads_112 rfl rfl ?_
                refine sp_getfield X (pc := 113) (c := 13) (i := 8) (t := 2) (a := (B 0)) (v := va_rf (some (B 8))) rfl hVm74.r.o (by decide) rfl (congrArg va_rf hVm74.f8) fl_Mo_26 dX12_leads_113 ?_
                refine sp_iload X (pc := 116) (x := nI f) dX12_leads_116 rfl ?_
                refine sp_iaload X (pc := 118) (a := (B 8)) rfl (Or.inl hVm74.y8) (sp_in f hVm74.l8 (by omega) (by decide)) dX12_leads_118 ?_
                rw [show (m74.aI (B 8) (nI f).toNatClampNeg) = (m74.aI (B 8) f) from (congrArg _ (nI_clamp (n := f) (by omega)))]
                rw [show (m74.aI (B 8) f) = (nI (T.o f)) from (hMN74.1 f hf1).2.2.2.2.1]
                refine sp_istore X (pc := 119) (lv' := [(4, false, .int (nI (T.o f))), (0, false, va_rf (some (B 0))), (5, false, .int (nI bl)), (6, false, .int (nI lk))]) dX12_leads_119  (by decide) rfl ?_
                refine sp_goto X (pc := 121) (tgt := 264) dX12_leads_121 (by decide) ?_
                refine sp_pick X [1, 0, 2, 3] (lv' := [(0, false, va_rf (some (B 0))), (4, false, .int (nI (T.o f))), (5, false, .int (nI bl)), (6, false, .int (nI lk))]) rfl ?_
                first
                  | (rw [hbl0]
                     exact cut264 f2 0 (lk + 1) (tp74 + 1) _ _ _ hf2 (by omega) (by omega) hVm228 hQ228.1 r228 (by have := hQ228.2; omega) pl228 (by rw [List.length_append]; omega) hLG2)
                  | exact cut264 f (bl - 1) lk tp74 _ _ _ hf1 hlk (by omega) hVm74 hQ74 hrk (by omega) hpl8 (by omega) (hgo _ (Or.inl ⟨hbl0, hp88.ne hb91, rfl⟩))
                  | exact cut264 f (bl + 1) lk tp74 _ _ _ hf1 hlk (by omega) hVm74 hQ74 hrk (by omega) hpl8 (by omega) (hgo _ (Or.inr (Or.inl ⟨hbl0, hp88.eq hb91, rfl⟩)))
                  | (rw [hbl0]
                     exact cut264 (T.o f) 0 lk tp74 _ _ _ (hW.lt hf1) hlk (by omega) hVm74 hQ74 hrk (by omega) hpl8 (by omega) (hgo _ (Or.inr (Or.inr (Or.inl ⟨hbl0, hp106.ne hb109, rfl⟩)))))
                  | exact cut264 f 1 lk tp74 _ _ _ hf1 hlk (by omega) hVm74 hQ74 hrk (by omega) hpl8 (by omega) (hgo _ (Or.inr (Or.inr (Or.inr ⟨hbl0, hp106.eq hb109, _, ho9, Or.inl ⟨hon, rfl⟩⟩))))
                  | (rw [hbl0]
                     exact cut264 j 0 lk tp74 _ _ _ hj hlk (by omega) hVm74 hQ74 hrk (by omega) hpl8 (by omega) (hgo2 _ (Or.inr ⟨j, rfl, Or.inl ⟨hb151, rfl⟩⟩)))
            · have hbl0 : 0 < bl := sp_nlt (b := bl) (a := 0) hb82 (by omega)
              refine sp_iload X (pc := 85) (x := nI bl) dX12_leads_85 rfl ?_
              refine sp_aload_n X (pc := 87) (r := some (B 0)) dX12_leads_87 rfl rfl ?_
              refine sp_callV X (pc := 88) (mc := 0) (ms := 0) (b := (B 0)) (c := 13) (r := some (B 0)) (As := []) (rest := [.int (nI bl)]) (c_Mo_isUp l G _ hVm74) ok_Mo_isUp rfl hVm74.r.o (by decide) rfl lk_Mo_139 rfl rfl (by simp [sp_cat_rf, sp_cat_i, sp_cat_l]) (Nat.le_of_ble_eq_true rfl) (Nat.le_of_ble_eq_true rfl) (Nat.zero_le _) (Nat.zero_le _) dX12_leads_88 (sp_kI fun v88 m88 hp88 => ?_)
              obtain ⟨hp88, hp88m⟩ := hp88; replace hp88m := (hp88m).symm; subst hp88m
              rw [hwu] at hp88
              refine sp_if_eq X (pc := 91) (tgt := 98) dX12_leads_91 (by decide) (fun hb91 => ?_) (fun hb91 => ?_)
              · refine sp_iconst X (pc := 98) (v := 1) dX12_leads_98 (by decide) ?_
                refine sp_iadd X (pc := 99) dX12_leads_99 ?_
                rw [show ((nI bl) + 1) = (nI (bl + 1)) from (nI_add bl 1)]
                refine sp_istore X (pc := 100) (lv' := [(5, false, .int (nI (bl + 1))), (0, false, va_rf (some (B 0))), (4, false, .int (nI f)), (6, false, .int (nI lk))]) dX12_leads_100  (by decide) rfl ?_
                refine sp_goto X (pc := 102) (tgt := 264) dX12_leads_102 (by decide) ?_
                refine sp_pick X [1, 2, 0, 3] (lv' := [(0, false, va_rf (some (B 0))), (4, false, .int (nI f)), (5, false, .int (nI (bl + 1))), (6, false, .int (nI lk))]) rfl ?_
                first
                  | (rw [hbl0]
                     exact cut264 f2 0 (lk + 1) (tp74 + 1) _ _ _ hf2 (by omega) (by omega) hVm228 hQ228.1 r228 (by have := hQ228.2; omega) pl228 (by rw [List.length_append]; omega) hLG2)
                  | exact cut264 f (bl - 1) lk tp74 _ _ _ hf1 hlk (by omega) hVm74 hQ74 hrk (by omega) hpl8 (by omega) (hgo _ (Or.inl ⟨hbl0, hp88.ne hb91, rfl⟩))
                  | exact cut264 f (bl + 1) lk tp74 _ _ _ hf1 hlk (by omega) hVm74 hQ74 hrk (by omega) hpl8 (by omega) (hgo _ (Or.inr (Or.inl ⟨hbl0, hp88.eq hb91, rfl⟩)))
                  | (rw [hbl0]
                     exact cut264 (T.o f) 0 lk tp74 _ _ _ (hW.lt hf1) hlk (by omega) hVm74 hQ74 hrk (by omega) hpl8 (by omega) (hgo _ (Or.inr (Or.inr (Or.inl ⟨hbl0, hp106.ne hb109, rfl⟩)))))
                  | exact cut264 f 1 lk tp74 _ _ _ hf1 hlk (by omega) hVm74 hQ74 hrk (by omega) hpl8 (by omega) (hgo _ (Or.inr (Or.inr (Or.inr ⟨hbl0, hp106.eq hb109, _, ho9, Or.inl ⟨hon, rfl⟩⟩))))
                  | (rw [hbl0]
                     exact cut264 j 0 lk tp74 _ _ _ hj hlk (by omega) hVm74 hQ74 hrk (by omega) hpl8 (by omega) (hgo2 _ (Or.inr ⟨j, rfl, Or.inl ⟨hb151, rfl⟩⟩)))
              · refine sp_iconst X (pc := 94) (v := (-1)) dX12_leads_94 (by decide) ?_
                refine sp_goto X (pc := 95) (tgt := 99) dX12_leads_95 (by decide) ?_
                refine sp_iadd X (pc := 99) dX12_leads_99 ?_
                rw [show ((nI bl) + (-1)) = (nI (bl - 1)) from (sp_nI_m1 (by omega))]
                refine sp_istore X (pc := 100) (lv' := [(5, false, .int (nI (bl - 1))), (0, false, va_rf (some (B 0))), (4, false, .int (nI f)), (6, false, .int (nI lk))]) dX12_leads_100  (by decide) rfl ?_
                refine sp_goto X (pc := 102) (tgt := 264) dX12_leads_102 (by decide) ?_
                refine sp_pick X [1, 2, 0, 3] (lv' := [(0, false, va_rf (some (B 0))), (4, false, .int (nI f)), (5, false, .int (nI (bl - 1))), (6, false, .int (nI lk))]) rfl ?_
                first
                  | (rw [hbl0]
                     exact cut264 f2 0 (lk + 1) (tp74 + 1) _ _ _ hf2 (by omega) (by omega) hVm228 hQ228.1 r228 (by have := hQ228.2; omega) pl228 (by rw [List.length_append]; omega) hLG2)
                  | exact cut264 f (bl - 1) lk tp74 _ _ _ hf1 hlk (by omega) hVm74 hQ74 hrk (by omega) hpl8 (by omega) (hgo _ (Or.inl ⟨hbl0, hp88.ne hb91, rfl⟩))
                  | exact cut264 f (bl + 1) lk tp74 _ _ _ hf1 hlk (by omega) hVm74 hQ74 hrk (by omega) hpl8 (by omega) (hgo _ (Or.inr (Or.inl ⟨hbl0, hp88.eq hb91, rfl⟩)))
                  | (rw [hbl0]
                     exact cut264 (T.o f) 0 lk tp74 _ _ _ (hW.lt hf1) hlk (by omega) hVm74 hQ74 hrk (by omega) hpl8 (by omega) (hgo _ (Or.inr (Or.inr (Or.inl ⟨hbl0, hp106.ne hb109, rfl⟩)))))
                  | exact cut264 f 1 lk tp74 _ _ _ hf1 hlk (by omega) hVm74 hQ74 hrk (by omega) hpl8 (by omega) (hgo _ (Or.inr (Or.inr (Or.inr ⟨hbl0, hp106.eq hb109, _, ho9, Or.inl ⟨hon, rfl⟩⟩))))
                  | (rw [hbl0]
                     exact cut264 j 0 lk tp74 _ _ _ hj hlk (by omega) hVm74 hQ74 hrk (by omega) hpl8 (by omega) (hgo2 _ (Or.inr ⟨j, rfl, Or.inl ⟨hb151, rfl⟩⟩)))
      refine sp_pick X [1, 2, 3, 0] (lv' := [(0, false, va_rf (some (B 0))), (4, false, .int (nI f)), (5, false, .int y), (6, false, .int 0)]) rfl ?_
      rcases hfy with ⟨-, hz0⟩ | ⟨-, hz0, hz1⟩
      · exact absurd (by rw [hz0] at hp65; exact hp65.ne hb68) (pu_ins.zero hW.2.1)
      · rw [hz1]
        exact loop73 _ f y0 0 1 _ _ _ hf1 (by omega) (by omega) hVm1 hQ1 hr1 hpl1 (hp65.ne hb68) (by have := hfew g hg; omega) (fun v9 h9 => by rw [hfz]; exact h9) rfl
    · refine sp_iconst X (pc := 71) (v := (-1)) dX12_leads_71 (by decide) ?_
      refine sp_ireturn X (pc := 72) dX12_leads_72 rfl ⟨_, rfl, ?_⟩
      exact ⟨⟨_, hVm1, hr1⟩, fz, hff, pu_LG.end_ (Or.inl ⟨fun y => hp65.eq hb68 (by rw [← hfz]; exact y), rfl⟩)⟩
  refine sp_aload_n X (pc := 0) (r := some (B 0)) dX12_leads_0 rfl rfl ?_
  refine sp_getfield X (pc := 1) (c := 13) (i := 36) (t := 2) (a := (B 0)) (v := va_rf (some (B 36))) rfl hVm.r.o (by decide) rfl (congrArg va_rf hVm.f36) fl_Mo_89 dX12_leads_1 ?_
  refine sp_iconst X (pc := 4) (v := 0) dX12_leads_4 (by decide) ?_
  refine sp_iload_n X (pc := 5) (x := nI g) dX12_leads_5 rfl rfl ?_
  refine sp_iastore X (pc := 6) (a := (B 36)) rfl hVm.y36 (sp_in 0 hVm.l36 (by omega) (by decide))  dX12_leads_6 ?_
  rw [show (Int32.toNatClampNeg 0) = 0 from (nI_clamp (n := 0) (by omega))]
  obtain ⟨m6, hm6⟩ : ∃ xm, xm = (m.sI (B 36) 0 (nI g)) := ⟨_, rfl⟩
  rw [← hm6]
  have hVm6 : sp_V B m0 m6 D R l0 l1 d n b p t e n ws vq vm vl vs vA vE := by
    rw [hm6]
    exact hVm.sI 36 0 _ (by decide) (by decide) (Nat.zero_le _)
  have a36 : m6.aI (B 36) 0 = nI g := by
    rw [hm6]
    rw [sp_sI_aI, if_pos ⟨rfl, rfl⟩]
  have ra : sp_rk B [34, 36, 37] m m6 := by
    rw [hm6]
    exact (sp_rk.refl _ _ _).sI hVm.r 36 _ _ (by decide) (by decide)
  clear hm6
  refine sp_aload_n X (pc := 7) (r := some (B 0)) dX12_leads_7 rfl rfl ?_
  refine sp_getfield X (pc := 8) (c := 13) (i := 37) (t := 2) (a := (B 0)) (v := va_rf (some (B 37))) rfl hVm6.r.o (by decide) rfl (congrArg va_rf hVm6.f37) fl_Mo_92 dX12_leads_8 ?_
  refine sp_iconst X (pc := 11) (v := 0) dX12_leads_11 (by decide) ?_
  refine sp_iconst X (pc := 12) (v := 0) dX12_leads_12 (by decide) ?_
  refine sp_iastore X (pc := 13) (a := (B 37)) rfl hVm6.y37 (sp_in 0 hVm6.l37 (by omega) (by decide))  dX12_leads_13 ?_
  rw [show (Int32.toNatClampNeg 0) = 0 from (nI_clamp (n := 0) (by omega))]
  obtain ⟨m13, hm13⟩ : ∃ xm, xm = (m6.sI (B 37) 0 0) := ⟨_, rfl⟩
  rw [← hm13]
  have hVm13 : sp_V B m0 m13 D R l0 l1 d n b p t e n ws vq vm vl vs vA vE := by
    rw [hm13]
    exact hVm6.sI 37 0 _ (by decide) (by decide) (Nat.zero_le _)
  have b36 : m13.aI (B 36) 0 = nI g := by
    rw [hm13]
    rw [sp_sI_aI, if_neg (fun z => hVm.ne 36 37 (by decide) (by decide) (by decide) z.1)]; exact a36
  have b37 : m13.aI (B 37) 0 = nI 0 := by
    rw [hm13]
    rw [sp_sI_aI, if_pos ⟨rfl, rfl⟩]; rfl
  have rb : sp_rk B [34, 36, 37] m m13 := by
    rw [hm13]
    exact ra.sI hVm6.r 37 _ _ (by decide) (by decide)
  clear hm13
  refine sp_aload_n X (pc := 14) (r := some (B 0)) dX12_leads_14 rfl rfl ?_
  refine sp_iconst X (pc := 15) (v := 1) dX12_leads_15 (by decide) ?_
  refine sp_putI X (pc := 16) (c := 13) (i := 38) (q := 870) (a := (B 0)) rfl hVm13.r.o (by decide) rfl rfl (Or.inl rfl) ⟨rfl, rfl⟩ fl_Mo_159 dX12_leads_16 ?_
  obtain ⟨m16, hm16⟩ : ∃ xm, xm = (m13.pI 870 (B 0) 1) := ⟨_, rfl⟩
  rw [← hm16]
  have hVm16 : sp_V B m0 m16 D R l0 l1 d n b p t e n ws vq vm vl vs vA vE := by
    rw [hm16]
    exact hVm13.pI (k := 870) _ (by decide)
  have hQ : sp_Qp m16 B t 1 := by
    rw [hm16]
    refine ⟨by rw [sp_pI_fI, if_pos ⟨rfl, rfl⟩]; rfl, by omega, fun k hk => ?_⟩
    obtain rfl : k = 0 := by omega
    exact ⟨⟨g, b36, hg⟩, ⟨0, b37, by omega⟩⟩
  have rc : sp_rk B [34, 36, 37] m m16 := by
    rw [hm16]
    exact rb
  have hpl0 : sp_pl m16 B R TT t 1 (pu_tp R TT g) := by
    rw [hm16]
    obtain ⟨ls, e1, e2⟩ := hTU g hg
    exact ⟨g, 0, ls, [], b36, hg, b37, Nat.zero_le _, e1, by rw [List.append_nil]; exact e2, rfl⟩
  clear hm16
  refine sp_aload_n X (pc := 19) (r := some (B 0)) dX12_leads_19 rfl rfl ?_
  refine sp_iload_n X (pc := 20) (x := nI g) dX12_leads_20 rfl rfl ?_
  refine sp_iload_n X (pc := 21) (x := nI f0) dX12_leads_21 rfl rfl ?_
  refine sp_callV X (pc := 22) (mc := 0) (ms := 0) (b := (B 0)) (c := 13) (r := some (B 0)) (As := [.int (nI g), .int (nI f0)]) (rest := []) (c_Mo_startOf l G _ hVm16 hg (hMT.rk rc (by decide) (by decide)) hTl) ok_Mo_startOf rfl hVm16.r.o (by decide) rfl lk_Mo_162 rfl rfl (Nat.zero_le _) (Nat.le_of_ble_eq_true rfl) (Nat.le_of_ble_eq_true rfl) (Nat.zero_le _) (Nat.zero_le _) dX12_leads_22 (sp_kI fun v22 m22 hp22 => ?_)
  obtain ⟨hp22, hp22m⟩ := hp22; replace hp22m := (hp22m).symm; subst hp22m
  have hz22 : ∃ f, v22 = nI f ∧ f < n ∧ ((pu_tf R TT g ∧ f = 0) ∨ (¬ pu_tf R TT g ∧ f = f0)) := by
    rcases hp22 with ⟨y, z⟩ | ⟨y, z⟩
    · exact ⟨0, z, by omega, Or.inl ⟨y, rfl⟩⟩
    · exact ⟨f0, z, hf0, Or.inr ⟨y, rfl⟩⟩
  obtain ⟨f, rfl, hf1, hff⟩ := hz22
  refine sp_istore X (pc := 25) (lv' := [(4, false, .int (nI f)), (0, false, va_rf (some (B 0))), (1, false, .int (nI g)), (2, false, .int (nI f0)), (3, false, .int (nI y0))]) dX12_leads_25  (by decide) rfl ?_
  refine sp_iload X (pc := 27) (x := (nI f)) dX12_leads_27 rfl ?_
  refine sp_iload_n X (pc := 29) (x := nI f0) dX12_leads_29 rfl rfl ?_
  refine sp_icmp_ne X (pc := 30) (tgt := 37) dX12_leads_30 (by decide) (fun hb30 => ?_) (fun hb30 => ?_)
  · have hfe : ¬ f = f0 := fun y => hb30 (by rw [y])
    refine sp_iconst X (pc := 37) (v := 0) dX12_leads_37 (by decide) ?_
    refine sp_istore X (pc := 38) (lv' := [(5, false, .int 0), (4, false, .int (nI f)), (0, false, va_rf (some (B 0))), (1, false, .int (nI g)), (2, false, .int (nI f0)), (3, false, .int (nI y0))]) dX12_leads_38  (by decide) rfl ?_
    refine sp_aload_n X (pc := 40) (r := some (B 0)) dX12_leads_40 rfl rfl ?_
    refine sp_aload_n X (pc := 41) (r := some (B 0)) dX12_leads_41 rfl rfl ?_
    refine sp_getfield X (pc := 42) (c := 13) (i := 23) (t := 2) (a := (B 0)) (v := va_rf (some (B 23))) rfl hVm16.r.o (by decide) rfl (congrArg va_rf hVm16.f23) fl_Mo_60 dX12_leads_42 ?_
    refine sp_bipush X (pc := 45) (v := 40) dX12_leads_45 (by decide) ?_
    refine sp_iload_n X (pc := 47) (x := nI g) dX12_leads_47 rfl rfl ?_
    refine sp_imul X (pc := 48) dX12_leads_48 ?_
    rw [show (40 * (nI g)) = (nI (40 * g)) from (sp_mul 40 g)]
    refine sp_iaload X (pc := 49) (a := (B 23)) rfl (Or.inl hVm16.y23) (sp_in (40 * g) hVm16.l23 (by omega) (by decide)) dX12_leads_49 ?_
    rw [show (m16.aI (B 23) (nI (40 * g)).toNatClampNeg) = (m16.aI (B 23) (40 * g)) from (congrArg _ (nI_clamp (n := (40 * g)) (by omega)))]
    rw [show (m16.aI (B 23) (40 * g)) = ((TT g).getD 0 0) from (((hMT.rk rc (by decide) (by decide)) g hg).2 0 (by have := hTl g hg; omega))]
    refine sp_callV X (pc := 50) (mc := 0) (ms := 0) (b := (B 0)) (c := 13) (r := some (B 0)) (As := [.int ((TT g).getD 0 0)]) (rest := []) (c_Mo_isParting l G _ hVm16) ok_Mo_isParting rfl hVm16.r.o (by decide) rfl lk_Mo_125 rfl rfl (Nat.zero_le _) (Nat.le_of_ble_eq_true rfl) (Nat.le_of_ble_eq_true rfl) (Nat.zero_le _) (Nat.zero_le _) dX12_leads_50 (sp_kI fun v50 m50 hp50 => ?_)
    obtain ⟨hp50v, hp50⟩ := hp50; replace hp50 := (hp50).symm; subst hp50; replace hp50v := (hp50v).symm; subst hp50v
    refine sp_if_eq X (pc := 53) (tgt := 59) dX12_leads_53 (by decide) (fun hb53 => ?_) (fun hb53 => ?_)
    · refine sp_pick X [2, 1, 0] (lv' := [(0, false, va_rf (some (B 0))), (4, false, .int (nI f)), (5, false, .int 0)]) rfl ?_
      first
        | exact cut59 f f _ _ _ hf1 hVm16 hQ rc hpl0 hff rfl (hff.elim (fun z => Or.inl z) (fun z => Or.inr ⟨z.1, z.2, rfl⟩))
        | exact cut59 f f _ _ _ hf1 hVm16 hQ rc hpl0 hff rfl (hff.elim (fun z => Or.inl z) (fun z => absurd z.2 hfe))
        | exact cut59 f f _ _ _ hf1 hVm16 hQ rc hpl0 hff rfl (hff.elim (fun z => Or.inl z) (fun z => absurd hb53 z.1))
    · refine sp_iconst X (pc := 56) (v := 0) dX12_leads_56 (by decide) ?_
      refine sp_istore X (pc := 57) (lv' := [(5, false, .int 0), (4, false, .int (nI f)), (0, false, va_rf (some (B 0))), (1, false, .int (nI g)), (2, false, .int (nI f0)), (3, false, .int (nI y0))]) dX12_leads_57  (by decide) rfl ?_
      refine sp_pick X [2, 1, 0] (lv' := [(0, false, va_rf (some (B 0))), (4, false, .int (nI f)), (5, false, .int 0)]) rfl ?_
      first
        | exact cut59 f f _ _ _ hf1 hVm16 hQ rc hpl0 hff rfl (hff.elim (fun z => Or.inl z) (fun z => Or.inr ⟨z.1, z.2, rfl⟩))
        | exact cut59 f f _ _ _ hf1 hVm16 hQ rc hpl0 hff rfl (hff.elim (fun z => Or.inl z) (fun z => absurd z.2 hfe))
        | exact cut59 f f _ _ _ hf1 hVm16 hQ rc hpl0 hff rfl (hff.elim (fun z => Or.inl z) (fun z => absurd hb53 z.1))
  · refine sp_iload_n X (pc := 33) (x := nI y0) dX12_leads_33 rfl rfl ?_
    refine sp_goto X (pc := 34) (tgt := 38) dX12_leads_34 (by decide) ?_
    refine sp_istore X (pc := 38) (lv' := [(5, false, .int (nI y0)), (4, false, .int (nI f)), (0, false, va_rf (some (B 0))), (1, false, .int (nI g)), (2, false, .int (nI f0)), (3, false, .int (nI y0))]) dX12_leads_38  (by decide) rfl ?_
    refine sp_aload_n X (pc := 40) (r := some (B 0)) dX12_leads_40 rfl rfl ?_
    refine sp_aload_n X (pc := 41) (r := some (B 0)) dX12_leads_41 rfl rfl ?_
    refine sp_getfield X (pc := 42) (c := 13) (i := 23) (t := 2) (a := (B 0)) (v := va_rf (some (B 23))) rfl hVm16.r.o (by decide) rfl (congrArg va_rf hVm16.f23) fl_Mo_60 dX12_leads_42 ?_
    refine sp_bipush X (pc := 45) (v := 40) dX12_leads_45 (by decide) ?_
    refine sp_iload_n X (pc := 47) (x := nI g) dX12_leads_47 rfl rfl ?_
    refine sp_imul X (pc := 48) dX12_leads_48 ?_
    rw [show (40 * (nI g)) = (nI (40 * g)) from (sp_mul 40 g)]
    refine sp_iaload X (pc := 49) (a := (B 23)) rfl (Or.inl hVm16.y23) (sp_in (40 * g) hVm16.l23 (by omega) (by decide)) dX12_leads_49 ?_
    rw [show (m16.aI (B 23) (nI (40 * g)).toNatClampNeg) = (m16.aI (B 23) (40 * g)) from (congrArg _ (nI_clamp (n := (40 * g)) (by omega)))]
    rw [show (m16.aI (B 23) (40 * g)) = ((TT g).getD 0 0) from (((hMT.rk rc (by decide) (by decide)) g hg).2 0 (by have := hTl g hg; omega))]
    refine sp_callV X (pc := 50) (mc := 0) (ms := 0) (b := (B 0)) (c := 13) (r := some (B 0)) (As := [.int ((TT g).getD 0 0)]) (rest := []) (c_Mo_isParting l G _ hVm16) ok_Mo_isParting rfl hVm16.r.o (by decide) rfl lk_Mo_125 rfl rfl (Nat.zero_le _) (Nat.le_of_ble_eq_true rfl) (Nat.le_of_ble_eq_true rfl) (Nat.zero_le _) (Nat.zero_le _) dX12_leads_50 (sp_kI fun v50 m50 hp50 => ?_)
    obtain ⟨hp50v, hp50⟩ := hp50; replace hp50 := (hp50).symm; subst hp50; replace hp50v := (hp50v).symm; subst hp50v
    refine sp_if_eq X (pc := 53) (tgt := 59) dX12_leads_53 (by decide) (fun hb53 => ?_) (fun hb53 => ?_)
    · refine sp_pick X [2, 1, 0] (lv' := [(0, false, va_rf (some (B 0))), (4, false, .int (nI f)), (5, false, .int (nI y0))]) rfl ?_
      first
        | exact cut59 f f _ _ _ hf1 hVm16 hQ rc hpl0 hff rfl (hff.elim (fun z => Or.inl z) (fun z => Or.inr ⟨z.1, z.2, rfl⟩))
        | exact cut59 f f _ _ _ hf1 hVm16 hQ rc hpl0 hff rfl (hff.elim (fun z => Or.inl z) (fun z => absurd z.2 hfe))
        | exact cut59 f f _ _ _ hf1 hVm16 hQ rc hpl0 hff rfl (hff.elim (fun z => Or.inl z) (fun z => absurd hb53 z.1))
    · refine sp_iconst X (pc := 56) (v := 0) dX12_leads_56 (by decide) ?_
      refine sp_istore X (pc := 57) (lv' := [(5, false, .int 0), (4, false, .int (nI f)), (0, false, va_rf (some (B 0))), (1, false, .int (nI g)), (2, false, .int (nI f0)), (3, false, .int (nI y0))]) dX12_leads_57  (by decide) rfl ?_
      refine sp_pick X [2, 1, 0] (lv' := [(0, false, va_rf (some (B 0))), (4, false, .int (nI f)), (5, false, .int 0)]) rfl ?_
      first
        | exact cut59 f f _ _ _ hf1 hVm16 hQ rc hpl0 hff rfl (hff.elim (fun z => Or.inl z) (fun z => Or.inr ⟨z.1, z.2, rfl⟩))
        | exact cut59 f f _ _ _ hf1 hVm16 hQ rc hpl0 hff rfl (hff.elim (fun z => Or.inl z) (fun z => absurd z.2 hfe))
        | exact cut59 f f _ _ _ hf1 hVm16 hQ rc hpl0 hff rfl (hff.elim (fun z => Or.inl z) (fun z => absurd hb53 z.1))
set_option maxRecDepth 20000 in
theorem c_Mo_lead (l : Launch) (G : sp_G) (m : sp_M) {B : Nat → Nat} {m0 : sp_M} {D : Nat → Int32} {R : Int32} {l0 l1 : Int64} {d n b p t e ws : Nat} {vq vm vl : Int32} {vs : Int64} {vA vE : Nat → Int64} (hVm : sp_V B m0 m D R l0 l1 d n b p t e n ws vq vm vl vs vA vE)  {T : pu_N} {nb0 : Nat} (hMN : sp_mN m B n n T) (hW : pu_W n nb0 t T) {TT : Nat → List Int32} (hMT : sp_mT m B t TT) (hTl : pu_Tt t TT) (hTU : pu_TU R t TT) {x : Int32} : sp_C l G M_Mo_lead 0 0 [.ref (B 0), .int x] m (sp_oI fun v m' => (∃ w', sp_V B m0 m' D R l0 l1 d n b p t e n w' vq vm vl vs vA vE ∧ sp_rk B [34, 36, 37] m m') ∧ pu_lead v R n T (pu_tp R TT) (pu_tf R TT) x) := by
  refine sp_enter (lv0 := [(0, false, va_rf (some (B 0))), (1, false, .int x)]) "SafePathsModel" false rfl (by decide) (fun h => by cases h) (Nat.le_of_ble_eq_true rfl) rfl ?_
  intro w X
  have bd := hVm.hd
  have bn := hVm.hn
  have bb := hVm.hb
  have bp := hVm.hp
  have bt := hVm.ht
  have be := hVm.he
  have bw := hVm.hw
  have bL := hVm.hL
  have rkm : sp_rk B [34, 36, 37] m m := sp_rk.refl _ _ _
  refine sp_iload_n X (pc := 0) (x := x) dX12_lead_0 rfl rfl ?_
  refine sp_if_lt X (pc := 1) (tgt := 21) dX12_lead_1 (by decide) (fun hb1 => ?_) (fun hb1 => ?_)
  · have hno : ¬ ∃ j, j < n ∧ x = nI j ∧ T.g j = 0 := fun ⟨j, q1, q2, _⟩ => by rw [q2] at hb1; exact nI_pos (by omega) hb1
    refine sp_bipush X (pc := 21) (v := (-7)) dX12_lead_21 (by decide) ?_
    refine sp_ireturn X (pc := 23) dX12_lead_23 rfl ⟨_, rfl, ?_⟩
    exact ⟨⟨_, hVm, rkm⟩, Or.inl ⟨hno, rfl⟩⟩
  · refine sp_iload_n X (pc := 4) (x := x) dX12_lead_4 rfl rfl ?_
    refine sp_aload_n X (pc := 5) (r := some (B 0)) dX12_lead_5 rfl rfl ?_
    refine sp_getfield X (pc := 6) (c := 13) (i := 3) (t := 0) (a := (B 0)) (v := .int (nI n)) rfl hVm.r.o (by decide) rfl (congrArg Value.int hVm.cn) fl_Mo_115 dX12_lead_6 ?_
    refine sp_icmp_ge X (pc := 9) (tgt := 21) dX12_lead_9 (by decide) (fun hb9 => ?_) (fun hb9 => ?_)
    · have hno : ¬ ∃ j, j < n ∧ x = nI j ∧ T.g j = 0 := fun ⟨j, q1, q2, _⟩ => by rw [q2] at hb9; have := sp_nge hb9 (by omega) (by omega); omega
      refine sp_bipush X (pc := 21) (v := (-7)) dX12_lead_21 (by decide) ?_
      refine sp_ireturn X (pc := 23) dX12_lead_23 rfl ⟨_, rfl, ?_⟩
      exact ⟨⟨_, hVm, rkm⟩, Or.inl ⟨hno, rfl⟩⟩
    · obtain ⟨j, hj, rfl⟩ := sp_idx (s := n) (by omega) hb1 hb9
      obtain ⟨n1, n2, n3, n4, n5, -⟩ := hMN.1 j hj
      refine sp_aload_n X (pc := 12) (r := some (B 0)) dX12_lead_12 rfl rfl ?_
      refine sp_getfield X (pc := 13) (c := 13) (i := 7) (t := 2) (a := (B 0)) (v := va_rf (some (B 7))) rfl hVm.r.o (by decide) rfl (congrArg va_rf hVm.f7) fl_Mo_23 dX12_lead_13 ?_
      refine sp_iload_n X (pc := 16) (x := (nI j)) dX12_lead_16 rfl rfl ?_
      refine sp_baload X (pc := 17) (a := (B 7)) rfl hVm.y7 (sp_in j hVm.l7 (by omega) (by decide)) dX12_lead_17 ?_
      rw [show (m.aI (B 7) (nI j).toNatClampNeg) = (m.aI (B 7) j) from (congrArg _ (nI_clamp (n := j) (by omega)))]
      rw [show (m.aI (B 7) j) = (T.g j) from n4]
      refine sp_if_eq X (pc := 18) (tgt := 24) dX12_lead_18 (by decide) (fun hb18 => ?_) (fun hb18 => ?_)
      · refine sp_aload_n X (pc := 24) (r := some (B 0)) dX12_lead_24 rfl rfl ?_
        refine sp_getfield X (pc := 25) (c := 13) (i := 4) (t := 2) (a := (B 0)) (v := va_rf (some (B 4))) rfl hVm.r.o (by decide) rfl (congrArg va_rf hVm.f4) fl_Mo_13 dX12_lead_25 ?_
        refine sp_iload_n X (pc := 28) (x := (nI j)) dX12_lead_28 rfl rfl ?_
        refine sp_iaload X (pc := 29) (a := (B 4)) rfl (Or.inl hVm.y4) (sp_in j hVm.l4 (by omega) (by decide)) dX12_lead_29 ?_
        rw [show (m.aI (B 4) (nI j).toNatClampNeg) = (m.aI (B 4) j) from (congrArg _ (nI_clamp (n := j) (by omega)))]
        rw [show (m.aI (B 4) j) = (T.k j) from n1]
        refine sp_iconst X (pc := 30) (v := 2) dX12_lead_30 (by decide) ?_
        refine sp_icmp_eq X (pc := 31) (tgt := 36) dX12_lead_31 (by decide) (fun hb31 => ?_) (fun hb31 => ?_)
        · have hq := hMN.2.2 j hj (by rw [hb31]; decide)
          have hq1 : T.h j < t := by
            rcases hW.2.2.2.1 j hj with z | ⟨z, -⟩ | ⟨-, z⟩
            · rw [hb31] at z; exact absurd z (by decide)
            · rw [hb31] at z; exact absurd z (by decide)
            · exact z
          refine sp_aload_n X (pc := 36) (r := some (B 0)) dX12_lead_36 rfl rfl ?_
          refine sp_getfield X (pc := 37) (c := 13) (i := 6) (t := 2) (a := (B 0)) (v := va_rf (some (B 6))) rfl hVm.r.o (by decide) rfl (congrArg va_rf hVm.f6) fl_Mo_20 dX12_lead_37 ?_
          refine sp_iload_n X (pc := 40) (x := (nI j)) dX12_lead_40 rfl rfl ?_
          refine sp_baload X (pc := 41) (a := (B 6)) rfl hVm.y6 (sp_in j hVm.l6 (by omega) (by decide)) dX12_lead_41 ?_
          rw [show (m.aI (B 6) (nI j).toNatClampNeg) = (m.aI (B 6) j) from (congrArg _ (nI_clamp (n := j) (by omega)))]
          rw [show (m.aI (B 6) j) = (T.d j) from n3]
          refine sp_if_eq X (pc := 42) (tgt := 50) dX12_lead_42 (by decide) (fun hb42 => ?_) (fun hb42 => ?_)
          · refine sp_aload_n X (pc := 50) (r := some (B 0)) dX12_lead_50 rfl rfl ?_
            refine sp_aload_n X (pc := 51) (r := some (B 0)) dX12_lead_51 rfl rfl ?_
            refine sp_getfield X (pc := 52) (c := 13) (i := 9) (t := 2) (a := (B 0)) (v := va_rf (some (B 9))) rfl hVm.r.o (by decide) rfl (congrArg va_rf hVm.f9) fl_Mo_29 dX12_lead_52 ?_
            refine sp_iload_n X (pc := 55) (x := (nI j)) dX12_lead_55 rfl rfl ?_
            refine sp_iaload X (pc := 56) (a := (B 9)) rfl (Or.inl hVm.y9) (sp_in j hVm.l9 (by omega) (by decide)) dX12_lead_56 ?_
            rw [show (m.aI (B 9) (nI j).toNatClampNeg) = (m.aI (B 9) j) from (congrArg _ (nI_clamp (n := j) (by omega)))]
            rw [show (m.aI (B 9) j) = (nI (T.h j)) from hq]
            refine sp_aload_n X (pc := 57) (r := some (B 0)) dX12_lead_57 rfl rfl ?_
            refine sp_getfield X (pc := 58) (c := 13) (i := 8) (t := 2) (a := (B 0)) (v := va_rf (some (B 8))) rfl hVm.r.o (by decide) rfl (congrArg va_rf hVm.f8) fl_Mo_26 dX12_lead_58 ?_
            refine sp_iload_n X (pc := 61) (x := (nI j)) dX12_lead_61 rfl rfl ?_
            refine sp_iaload X (pc := 62) (a := (B 8)) rfl (Or.inl hVm.y8) (sp_in j hVm.l8 (by omega) (by decide)) dX12_lead_62 ?_
            rw [show (m.aI (B 8) (nI j).toNatClampNeg) = (m.aI (B 8) j) from (congrArg _ (nI_clamp (n := j) (by omega)))]
            rw [show (m.aI (B 8) j) = (nI (T.o j)) from n5]
            refine sp_iconst X (pc := 63) (v := 0) dX12_lead_63 (by decide) ?_
            refine sp_callV X (pc := 64) (mc := 0) (ms := 0) (b := (B 0)) (c := 13) (r := some (B 0)) (As := [.int (nI (T.h j)), .int (nI (T.o j)), .int 0]) (rest := []) (c_Mo_leads l G _ hVm hMN hW hMT hTl hTU (y0 := 0) hq1 (hW.lt hj) (by omega)) ok_Mo_leads rfl hVm.r.o (by decide) rfl lk_Mo_177 rfl rfl (Nat.zero_le _) (Nat.le_of_ble_eq_true rfl) (Nat.le_of_ble_eq_true rfl) (Nat.zero_le _) (Nat.zero_le _) dX12_lead_64 (sp_kI fun v64 m64 hp64 => ?_)
            obtain ⟨⟨w64, hVm64, hr64⟩, ff, hff, hlg⟩ := hp64
            have rkm64 : sp_rk B [34, 36, 37] m m64 := rkm.trans ((hr64).mono (by decide))
            refine sp_ireturn X (pc := 67) dX12_lead_67 rfl ⟨_, rfl, ?_⟩
            first
              | exact ⟨⟨_, hVm64, rkm64⟩, Or.inr ⟨j, hj, rfl, hb18, Or.inr ⟨hb31, Or.inr ⟨hb42, ff, hff, hlg⟩⟩⟩⟩
              | exact ⟨⟨_, hVm, rkm⟩, Or.inr ⟨j, hj, rfl, hb18, Or.inr ⟨hb31, Or.inl ⟨hb42, rfl⟩⟩⟩⟩
          · refine sp_bipush X (pc := 45) (v := (-2)) dX12_lead_45 (by decide) ?_
            refine sp_goto X (pc := 47) (tgt := 67) dX12_lead_47 (by decide) ?_
            refine sp_ireturn X (pc := 67) dX12_lead_67 rfl ⟨_, rfl, ?_⟩
            first
              | exact ⟨⟨_, hVm64, rkm64⟩, Or.inr ⟨j, hj, rfl, hb18, Or.inr ⟨hb31, Or.inr ⟨hb42, ff, hff, hlg⟩⟩⟩⟩
              | exact ⟨⟨_, hVm, rkm⟩, Or.inr ⟨j, hj, rfl, hb18, Or.inr ⟨hb31, Or.inl ⟨hb42, rfl⟩⟩⟩⟩
        · refine sp_iload_n X (pc := 34) (x := (nI j)) dX12_lead_34 rfl rfl ?_
          refine sp_ireturn X (pc := 35) dX12_lead_35 rfl ⟨_, rfl, ?_⟩
          exact ⟨⟨_, hVm, rkm⟩, Or.inr ⟨j, hj, rfl, hb18, Or.inl ⟨hb31, rfl⟩⟩⟩
      · have hno : ¬ ∃ k, k < n ∧ nI j = nI k ∧ T.g k = 0 := fun ⟨k, q1, q2, q3⟩ => by
          rw [← pu_nI q2 (by omega) (by omega)] at q3
          exact hb18 q3
        refine sp_bipush X (pc := 21) (v := (-7)) dX12_lead_21 (by decide) ?_
        refine sp_ireturn X (pc := 23) dX12_lead_23 rfl ⟨_, rfl, ?_⟩
        exact ⟨⟨_, hVm, rkm⟩, Or.inl ⟨hno, rfl⟩⟩
