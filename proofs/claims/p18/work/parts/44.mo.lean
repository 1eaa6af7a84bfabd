
theorem sp_pb01 (R x : Int32) : sp_b01 (sp_pb R x) := by unfold sp_pb; split; exact Or.inr rfl; exact Or.inl rfl
theorem sp_hr01 (R x : Int32) : sp_b01 (sp_hr R x) := by unfold sp_hr; split; exact Or.inl rfl; exact Or.inr rfl
/-- rows that stay -/
def sp_rk (B : Nat → Nat) (l : List Nat) (m m' : sp_M) : Prop := ∀ k, (sp_mt k).1 ≠ 0 → k ∉ l → m'.aI (B k) = m.aI (B k)
theorem sp_rk.refl (B : Nat → Nat) (l : List Nat) (m : sp_M) : sp_rk B l m m := fun _ _ _ => rfl
theorem sp_rk.trans {B : Nat → Nat} {l : List Nat} {m m1 m2 : sp_M} (h : sp_rk B l m m1) (h' : sp_rk B l m1 m2) : sp_rk B l m m2 := fun k hk hl => (h' k hk hl).trans (h k hk hl)
theorem sp_rk.mono {B : Nat → Nat} {l l' : List Nat} {m m1 : sp_M} (h : sp_rk B l m m1) (hl : ∀ k, k ∈ l → k ∈ l') : sp_rk B l' m m1 := fun k hk hk' => h k hk (fun z => hk' (hl k z))
theorem sp_rk.sI {B : Nat → Nat} {l : List Nat} {m m1 : sp_M} (h : sp_rk B l m m1) (hR : sp_R0 m1 B) (k j : Nat) (v : Int32) (hk : (sp_mt k).1 ≠ 0) (hl : k ∈ l) : sp_rk B l m (m1.sI (B k) j v) := fun q hq hql => by
  rw [← h q hq hql]
  funext i
  rw [sp_sI_aI, if_neg]
  rintro ⟨z, -⟩
  have := hR.ap _ _ hq hk z
  subst this
  exact hql hl
theorem sp_rk.of1 {B : Nat → Nat} {k : Nat} {m m1 : sp_M} (h : ∀ a, a ≠ B k → m1.aI a = m.aI a) (hR : sp_R0 m B) (hk : (sp_mt k).1 ≠ 0) : sp_rk B [k] m m1 := fun q hq hl => h _ (fun z => hl (by rw [hR.ap _ _ hq hk z]; exact List.mem_singleton.mpr rfl))
/-- a part's cell; the PATHS; the TARGETS, as the model has them -/
def sp_pc (m : sp_M) (B : Nat → Nat) (q : Nat) (u : List Int32) : Prop := m.aI (B 19) q = nI u.length ∧ ∀ i, i < u.length → m.aI (B 20) (16 * q + i) = u.getD i 0
def sp_mP (m : sp_M) (B : Nat → Nat) (p : Nat) (PT : Nat → List (List Int32)) : Prop := ∀ j, j < p → m.aI (B 18) j = nI (PT j).length ∧ ∀ k, k < (PT j).length → sp_pc m B (8 * j + k) ((PT j).getD k [])
def sp_mT (m : sp_M) (B : Nat → Nat) (t : Nat) (TT : Nat → List Int32) : Prop := ∀ j, j < t → m.aI (B 22) j = nI (TT j).length ∧ ∀ i, i < (TT j).length → m.aI (B 23) (40 * j + i) = (TT j).getD i 0
theorem sp_mP.rk {B : Nat → Nat} {l : List Nat} {m m' : sp_M} {p : Nat} {PT : Nat → List (List Int32)} (h : sp_mP m B p PT) (hr : sp_rk B l m m') (h8 : 18 ∉ l) (h9 : 19 ∉ l) (h0 : 20 ∉ l) : sp_mP m' B p PT := by
  unfold sp_mP sp_pc
  rw [hr 18 (by decide) h8, hr 19 (by decide) h9, hr 20 (by decide) h0]
  exact h
theorem sp_mT.rk {B : Nat → Nat} {l : List Nat} {m m' : sp_M} {t : Nat} {TT : Nat → List Int32} (h : sp_mT m B t TT) (hr : sp_rk B l m m') (h8 : 22 ∉ l) (h9 : 23 ∉ l) : sp_mT m' B t TT := by
  unfold sp_mT
  rw [hr 22 (by decide) h8, hr 23 (by decide) h9]
  exact h
/-- the word, as a list -/
def sp_wu (m : sp_M) (B : Nat → Nat) (w : Nat) : List Int32 := sp_seg (m.aI (B 34)) 0 w
theorem sp_wu_len (m : sp_M) (B : Nat → Nat) (w : Nat) : (sp_wu m B w).length = w := sp_seg_len _ _ _
theorem sp_wu_get (m : sp_M) (B : Nat → Nat) {w i : Nat} (hi : i < w) : (sp_wu m B w).getD i 0 = m.aI (B 34) i := by
  unfold sp_wu
  rw [sp_seg_get _ _ _ hi, Nat.zero_add]
theorem sp_wu_eq {m : sp_M} {B : Nat → Nat} {w : Nat} {u : List Int32} (hl : u.length = w) (hi : ∀ i, i < w → m.aI (B 34) i = u.getD i 0) : sp_wu m B w = u :=
  sp_ext (by rw [sp_wu_len, hl]) (fun i h => by rw [sp_wu_len] at h; rw [sp_wu_get _ _ h, hi i h])
theorem sp_wu_up (m : sp_M) (B : Nat → Nat) (w : Nat) : pu_up (sp_wu m B w) ↔ (w = 2 ∧ m.aI (B 34) 0 = 46 ∧ m.aI (B 34) 1 = 46) := by
  unfold pu_up
  rw [sp_wu_len]
  constructor
  · rintro ⟨h1, h2, h3⟩
    exact ⟨h1, by rw [← sp_wu_get m B (w := w) (i := 0) (by omega)]; exact h2, by rw [← sp_wu_get m B (w := w) (i := 1) (by omega)]; exact h3⟩
  · rintro ⟨h1, h2, h3⟩
    exact ⟨h1, by rw [sp_wu_get m B (w := w) (i := 0) (by omega)]; exact h2, by rw [sp_wu_get m B (w := w) (i := 1) (by omega)]; exact h3⟩
theorem sp_bo.or {a b : Int32} {p q : Prop} (h : sp_bo a p) (h' : sp_bo b q) : sp_bo (a ||| b) (p ∨ q) := by
  rcases h with ⟨rfl, h⟩ | ⟨rfl, h⟩ <;> rcases h' with ⟨rfl, h'⟩ | ⟨rfl, h'⟩
  · exact Or.inl ⟨by decide, Or.inl h⟩
  · exact Or.inl ⟨by decide, Or.inl h⟩
  · exact Or.inl ⟨by decide, Or.inr h'⟩
  · exact Or.inr ⟨by decide, fun z => z.elim h h'⟩
def sp_l3 (m : sp_M) (B : Nat → Nat) (x y z : Int32) : Prop := sp_sm (m.aI (B 34) 0) = x ∧ sp_sm (m.aI (B 34) 1) = y ∧ sp_sm (m.aI (B 34) 2) = z
theorem sp_wu_l3 (m : sp_M) (B : Nat → Nat) {w : Nat} (hw : 3 ≤ w) (x y z : Int32) : pu_w3 (sp_wu m B w) x y z ↔ sp_l3 m B x y z := by
  unfold pu_w3 sp_l3
  rw [sp_wu_get m B (w := w) (i := 0) (by omega), sp_wu_get m B (w := w) (i := 1) (by omega), sp_wu_get m B (w := w) (i := 2) (by omega)]
def sp_mst (m : sp_M) (B : Nat → Nat) (w s : Nat) : Prop := s ≤ w ∧ (∀ i, i < s → ¬ m.aI (B 34) i = 46) ∧ (s < w → m.aI (B 34) s = 46)
theorem sp_wu_st (m : sp_M) (B : Nat → Nat) (w s : Nat) : pu_stem (sp_wu m B w) s ↔ sp_mst m B w s := by
  unfold pu_stem sp_mst
  rw [sp_wu_len]
  constructor
  · rintro ⟨h1, h2, h3⟩
    exact ⟨h1, fun j hj => by rw [← sp_wu_get m B (w := w) (i := j) (by omega)]; exact h2 j hj, fun hs => by rw [← sp_wu_get m B hs]; exact h3 hs⟩
  · rintro ⟨h1, h2, h3⟩
    exact ⟨h1, fun j hj => by rw [sp_wu_get m B (w := w) (i := j) (by omega)]; exact h2 j hj, fun hs => by rw [sp_wu_get m B hs]; exact h3 hs⟩
/-- the model's isBad, at its end -/
theorem sp_wu_bad {m : sp_M} {B : Nat → Nat} {w s : Nat} {R x u v : Int32} (h1 : 1 ≤ w) (h8 : ¬ sp_hr R 8 = 0) (hno : ∀ i, i < w → ¬ (m.aI (B 34) i < 32 ∨ m.aI (B 34) i = 127) ∧ ¬ pu_mk (m.aI (B 34) i)) (hs : sp_mst m B w s) (hx : sp_bo x (s = 3 ∧ (sp_l3 m B 99 111 110 ∨ sp_l3 m B 112 114 110 ∨ sp_l3 m B 97 117 120 ∨ sp_l3 m B 110 117 108))) (hu : sp_bo u (s = 4 ∧ (sp_l3 m B 99 111 109 ∨ sp_l3 m B 108 112 116) ∧ 49 ≤ m.aI (B 34) 3 ∧ m.aI (B 34) 3 ≤ 57)) (hv : sp_bo v (m.aI (B 34) (w - 1) = 46 ∨ m.aI (B 34) (w - 1) = 32 ∨ ¬ x = 0 ∨ ¬ u = 0)) : sp_bo v (pu_bad R (sp_wu m B w)) := by
  refine hv.iff ⟨fun z => ?_, fun z => ?_⟩
  · refine Or.inr ⟨h8, ?_⟩
    rcases z with z | z | z | z
    · exact Or.inl ⟨by rw [sp_wu_len]; omega, Or.inl (by rw [sp_wu_len, sp_wu_get m B (by omega)]; exact z)⟩
    · exact Or.inl ⟨by rw [sp_wu_len]; omega, Or.inr (by rw [sp_wu_len, sp_wu_get m B (by omega)]; exact z)⟩
    · obtain ⟨rfl, q⟩ := hx.ne z
      have h3 := hs.1
      refine Or.inr (Or.inr (Or.inl ⟨(sp_wu_st m B w 3).mpr hs, ?_⟩))
      rw [propext (sp_wu_l3 m B h3 _ _ _), propext (sp_wu_l3 m B h3 _ _ _), propext (sp_wu_l3 m B h3 _ _ _), propext (sp_wu_l3 m B h3 _ _ _)]
      exact q
    · obtain ⟨rfl, q1, q2, q3⟩ := hu.ne z
      have h4 := hs.1
      have h3 : 3 ≤ w := by omega
      refine Or.inr (Or.inr (Or.inr ⟨(sp_wu_st m B w 4).mpr hs, by rw [sp_wu_get m B (by omega)]; exact q2, by rw [sp_wu_get m B (by omega)]; exact q3, ?_⟩))
      rw [propext (sp_wu_l3 m B h3 _ _ _), propext (sp_wu_l3 m B h3 _ _ _)]
      exact q1
  · rcases z with ⟨j, z1, z2⟩ | ⟨-, z⟩
    · rw [sp_wu_len] at z1
      rw [sp_wu_get m B z1] at z2
      exact absurd z2 (hno j z1).1
    · rcases z with ⟨-, z⟩ | ⟨j, z1, z2⟩ | ⟨z1, z2⟩ | ⟨z1, z2, z3, z4⟩
      · rw [sp_wu_len, sp_wu_get m B (by omega)] at z
        rcases z with z | z
        · exact Or.inl z
        · exact Or.inr (Or.inl z)
      · rw [sp_wu_len] at z1
        rw [sp_wu_get m B z1] at z2
        exact absurd z2 (hno j z1).2
      · have hs3 := (sp_wu_st m B w s).mpr hs
        obtain rfl := hs3.det z1
        have h3 := hs.1
        rw [propext (sp_wu_l3 m B h3 _ _ _), propext (sp_wu_l3 m B h3 _ _ _), propext (sp_wu_l3 m B h3 _ _ _), propext (sp_wu_l3 m B h3 _ _ _)] at z2
        exact Or.inr (Or.inr (Or.inl (fun q => hx.eq q ⟨rfl, z2⟩)))
      · have hs3 := (sp_wu_st m B w s).mpr hs
        obtain rfl := hs3.det z1
        have h4 := hs.1
        have h3 : 3 ≤ w := by omega
        rw [propext (sp_wu_l3 m B h3 _ _ _), propext (sp_wu_l3 m B h3 _ _ _)] at z4
        rw [sp_wu_get m B (by omega)] at z2 z3
        exact Or.inr (Or.inr (Or.inr (fun q => hu.eq q ⟨rfl, z4, z2, z3⟩)))
set_option maxRecDepth 20000 in
theorem c_Mo_small (l : Launch) (G : sp_G) (m : sp_M) {x : Int32} : sp_C l G M_Mo_small 0 0 [.int x] m (sp_oI fun v m' => v = sp_sm x ∧ m' = m) := by
  refine sp_enter (lv0 := [(0, false, .int x)]) "SafePathsModel" false rfl (by decide) (fun h => by cases h) (Nat.le_of_ble_eq_true rfl) rfl ?_
  intro w X
  refine sp_iload_n X (pc := 0) (x := x) dX12_small_0 rfl rfl ?_
  refine sp_bipush X (pc := 1) (v := 65) dX12_small_1 (by decide) ?_
  refine sp_icmp_lt X (pc := 3) (tgt := 19) dX12_small_3 (by decide) (fun hb3 => ?_) (fun hb3 => ?_)
  · refine sp_iload_n X (pc := 19) (x := x) dX12_small_19 rfl rfl ?_
    refine sp_ireturn X (pc := 20) dX12_small_20 rfl ⟨_, rfl, ?_⟩
    refine ⟨?_, rfl⟩
    unfold sp_sm
    first | exact (if_pos ⟨Int32.not_lt.mp hb3, Int32.not_lt.mp hb9⟩).symm | exact (if_neg (fun z => absurd hb3 (Int32.not_lt.mpr z.1))).symm | exact (if_neg (fun z => absurd hb9 (Int32.not_lt.mpr z.2))).symm
  · refine sp_iload_n X (pc := 6) (x := x) dX12_small_6 rfl rfl ?_
    refine sp_bipush X (pc := 7) (v := 90) dX12_small_7 (by decide) ?_
    refine sp_icmp_gt X (pc := 9) (tgt := 19) dX12_small_9 (by decide) (fun hb9 => ?_) (fun hb9 => ?_)
    · refine sp_iload_n X (pc := 19) (x := x) dX12_small_19 rfl rfl ?_
      refine sp_ireturn X (pc := 20) dX12_small_20 rfl ⟨_, rfl, ?_⟩
      refine ⟨?_, rfl⟩
      unfold sp_sm
      first | exact (if_pos ⟨Int32.not_lt.mp hb3, Int32.not_lt.mp hb9⟩).symm | exact (if_neg (fun z => absurd hb3 (Int32.not_lt.mpr z.1))).symm | exact (if_neg (fun z => absurd hb9 (Int32.not_lt.mpr z.2))).symm
    · refine sp_iload_n X (pc := 12) (x := x) dX12_small_12 rfl rfl ?_
      refine sp_bipush X (pc := 13) (v := 32) dX12_small_13 (by decide) ?_
      refine sp_iadd X (pc := 15) dX12_small_15 ?_
      refine sp_goto X (pc := 16) (tgt := 20) dX12_small_16 (by decide) ?_
      refine sp_ireturn X (pc := 20) dX12_small_20 rfl ⟨_, rfl, ?_⟩
      refine ⟨?_, rfl⟩
      unfold sp_sm
      first | exact (if_pos ⟨Int32.not_lt.mp hb3, Int32.not_lt.mp hb9⟩).symm | exact (if_neg (fun z => absurd hb3 (Int32.not_lt.mpr z.1))).symm | exact (if_neg (fun z => absurd hb9 (Int32.not_lt.mpr z.2))).symm
set_option maxRecDepth 20000 in
theorem c_Mo_hasRule (l : Launch) (G : sp_G) (m : sp_M) {B : Nat → Nat} {m0 : sp_M} {D : Nat → Int32} {R : Int32} {l0 l1 : Int64} {d n b p t e L ws : Nat} {vq vm vl : Int32} {vs : Int64} {vA vE : Nat → Int64} (hVm : sp_V B m0 m D R l0 l1 d n b p t e L ws vq vm vl vs vA vE) {r : Int32} : sp_C l G M_Mo_hasRule 0 0 [.ref (B 0), .int r] m (sp_oI fun v m' => v = sp_hr R r ∧ m' = m) := by
  refine sp_enter (lv0 := [(0, false, va_rf (some (B 0))), (1, false, .int r)]) "SafePathsModel" false rfl (by decide) (fun h => by cases h) (Nat.le_of_ble_eq_true rfl) rfl ?_
  intro w X
  have bd := hVm.hd
  have bn := hVm.hn
  have bb := hVm.hb
  have bp := hVm.hp
  have bt := hVm.ht
  have be := hVm.he
  have bw := hVm.hw
  have bL := hVm.hL
  refine sp_aload_n X (pc := 0) (r := some (B 0)) dX12_hasRule_0 rfl rfl ?_
  refine sp_getfield X (pc := 1) (c := 13) (i := 0) (t := 0) (a := (B 0)) (v := .int R) rfl hVm.r.o (by decide) rfl (congrArg Value.int hVm.ru) fl_Mo_95 dX12_hasRule_1 ?_
  refine sp_iload_n X (pc := 4) (x := r) dX12_hasRule_4 rfl rfl ?_
  refine sp_iand X (pc := 5) dX12_hasRule_5 ?_
  refine sp_if_eq X (pc := 6) (tgt := 13) dX12_hasRule_6 (by decide) (fun hb6 => ?_) (fun hb6 => ?_)
  · refine sp_iconst X (pc := 13) (v := 0) dX12_hasRule_13 (by decide) ?_
    refine sp_ireturn X (pc := 14) dX12_hasRule_14 rfl ⟨_, rfl, ?_⟩
    refine ⟨?_, rfl⟩
    unfold sp_hr
    first | exact (if_pos hb6).symm | exact (if_neg hb6).symm
  · refine sp_iconst X (pc := 9) (v := 1) dX12_hasRule_9 (by decide) ?_
    refine sp_goto X (pc := 10) (tgt := 14) dX12_hasRule_10 (by decide) ?_
    refine sp_ireturn X (pc := 14) dX12_hasRule_14 rfl ⟨_, rfl, ?_⟩
    refine ⟨?_, rfl⟩
    unfold sp_hr
    first | exact (if_pos hb6).symm | exact (if_neg hb6).symm
set_option maxRecDepth 20000 in
theorem c_Mo_isParting (l : Launch) (G : sp_G) (m : sp_M) {B : Nat → Nat} {m0 : sp_M} {D : Nat → Int32} {R : Int32} {l0 l1 : Int64} {d n b p t e L ws : Nat} {vq vm vl : Int32} {vs : Int64} {vA vE : Nat → Int64} (hVm : sp_V B m0 m D R l0 l1 d n b p t e L ws vq vm vl vs vA vE) {x : Int32} : sp_C l G M_Mo_isParting 0 0 [.ref (B 0), .int x] m (sp_oI fun v m' => v = sp_pb R x ∧ m' = m) := by
  refine sp_enter (lv0 := [(0, false, va_rf (some (B 0))), (1, false, .int x)]) "SafePathsModel" false rfl (by decide) (fun h => by cases h) (Nat.le_of_ble_eq_true rfl) rfl ?_
  intro w X
  have bd := hVm.hd
  have bn := hVm.hn
  have bb := hVm.hb
  have bp := hVm.hp
  have bt := hVm.ht
  have be := hVm.he
  have bw := hVm.hw
  have bL := hVm.hL
  refine sp_iload_n X (pc := 0) (x := x) dX12_isParting_0 rfl rfl ?_
  refine sp_bipush X (pc := 1) (v := 47) dX12_isParting_1 (by decide) ?_
  refine sp_icmp_eq X (pc := 3) (tgt := 20) dX12_isParting_3 (by decide) (fun hb3 => ?_) (fun hb3 => ?_)
  · have hz : (x = 47 ∨ (x = 92 ∧ ¬ sp_hr R 1 = 0)) := Or.inl hb3
    refine sp_iconst X (pc := 20) (v := 1) dX12_isParting_20 (by decide) ?_
    refine sp_goto X (pc := 21) (tgt := 25) dX12_isParting_21 (by decide) ?_
    refine sp_ireturn X (pc := 25) dX12_isParting_25 rfl ⟨_, rfl, ?_⟩
    refine ⟨?_, rfl⟩
    unfold sp_pb
    first | exact (if_pos hz).symm | exact (if_neg hz).symm
  · refine sp_iload_n X (pc := 6) (x := x) dX12_isParting_6 rfl rfl ?_
    refine sp_bipush X (pc := 7) (v := 92) dX12_isParting_7 (by decide) ?_
    refine sp_icmp_ne X (pc := 9) (tgt := 24) dX12_isParting_9 (by decide) (fun hb9 => ?_) (fun hb9 => ?_)
    · have hz : ¬ (x = 47 ∨ (x = 92 ∧ ¬ sp_hr R 1 = 0)) := fun z => z.elim hb3 (fun y => hb9 y.1)
      refine sp_iconst X (pc := 24) (v := 0) dX12_isParting_24 (by decide) ?_
      refine sp_ireturn X (pc := 25) dX12_isParting_25 rfl ⟨_, rfl, ?_⟩
      refine ⟨?_, rfl⟩
      unfold sp_pb
      first | exact (if_pos hz).symm | exact (if_neg hz).symm
    · refine sp_aload_n X (pc := 12) (r := some (B 0)) dX12_isParting_12 rfl rfl ?_
      refine sp_iconst X (pc := 13) (v := 1) dX12_isParting_13 (by decide) ?_
      refine sp_callV X (pc := 14) (mc := 0) (ms := 0) (b := (B 0)) (c := 13) (r := some (B 0)) (As := [.int 1]) (rest := []) (c_Mo_hasRule l G _ hVm) ok_Mo_hasRule rfl hVm.r.o (by decide) rfl lk_Mo_118 rfl rfl (Nat.zero_le _) (Nat.le_of_ble_eq_true rfl) (Nat.le_of_ble_eq_true rfl) (Nat.zero_le _) (Nat.zero_le _) dX12_isParting_14 (sp_kI fun v14 m14 hp14 => ?_)
      obtain ⟨hp14v, hp14⟩ := hp14; replace hp14 := (hp14).symm; subst hp14; replace hp14v := (hp14v).symm; subst hp14v
      refine sp_if_eq X (pc := 17) (tgt := 24) dX12_isParting_17 (by decide) (fun hb17 => ?_) (fun hb17 => ?_)
      · have hz : ¬ (x = 47 ∨ (x = 92 ∧ ¬ sp_hr R 1 = 0)) := fun z => z.elim hb3 (fun y => y.2 hb17)
        refine sp_iconst X (pc := 24) (v := 0) dX12_isParting_24 (by decide) ?_
        refine sp_ireturn X (pc := 25) dX12_isParting_25 rfl ⟨_, rfl, ?_⟩
        refine ⟨?_, rfl⟩
        unfold sp_pb
        first | exact (if_pos hz).symm | exact (if_neg hz).symm
      · have hz : (x = 47 ∨ (x = 92 ∧ ¬ sp_hr R 1 = 0)) := Or.inr ⟨hb9, hb17⟩
        refine sp_iconst X (pc := 20) (v := 1) dX12_isParting_20 (by decide) ?_
        refine sp_goto X (pc := 21) (tgt := 25) dX12_isParting_21 (by decide) ?_
        refine sp_ireturn X (pc := 25) dX12_isParting_25 rfl ⟨_, rfl, ?_⟩
        refine ⟨?_, rfl⟩
        unfold sp_pb
        first | exact (if_pos hz).symm | exact (if_neg hz).symm
set_option maxRecDepth 20000 in
theorem c_Mo_isUp (l : Launch) (G : sp_G) (m : sp_M) {B : Nat → Nat} {m0 : sp_M} {D : Nat → Int32} {R : Int32} {l0 l1 : Int64} {d n b p t e L ws : Nat} {vq vm vl : Int32} {vs : Int64} {vA vE : Nat → Int64} (hVm : sp_V B m0 m D R l0 l1 d n b p t e L ws vq vm vl vs vA vE)  : sp_C l G M_Mo_isUp 0 0 [.ref (B 0)] m (sp_oI fun v m' => sp_bo v (pu_up (sp_wu m B ws)) ∧ m' = m) := by
  refine sp_enter (lv0 := [(0, false, va_rf (some (B 0)))]) "SafePathsModel" false rfl (by decide) (fun h => by cases h) (Nat.le_of_ble_eq_true rfl) rfl ?_
  intro w X
  have bd := hVm.hd
  have bn := hVm.hn
  have bb := hVm.hb
  have bp := hVm.hp
  have bt := hVm.ht
  have be := hVm.he
  have bw := hVm.hw
  have bL := hVm.hL
  refine sp_aload_n X (pc := 0) (r := some (B 0)) dX12_isUp_0 rfl rfl ?_
  refine sp_getfield X (pc := 1) (c := 13) (i := 35) (t := 0) (a := (B 0)) (v := .int (nI ws)) rfl hVm.r.o (by decide) rfl (congrArg Value.int hVm.cw) fl_Mo_107 dX12_isUp_1 ?_
  refine sp_iconst X (pc := 4) (v := 2) dX12_isUp_4 (by decide) ?_
  refine sp_icmp_ne X (pc := 5) (tgt := 34) dX12_isUp_5 (by decide) (fun hb5 => ?_) (fun hb5 => ?_)
  · refine sp_iconst X (pc := 34) (v := 0) dX12_isUp_34 (by decide) ?_
    refine sp_ireturn X (pc := 35) dX12_isUp_35 rfl ⟨_, rfl, ?_⟩
    refine ⟨sp_bo.iff ?_ (sp_wu_up m B ws).symm, rfl⟩
    first
      | exact sp_bo.t ⟨sp_neq (b := 2) hb5 (by omega) (by decide), hb16, hb27⟩
      | exact sp_bo.f (fun z => hb5 (by rw [z.1]; rfl))
      | exact sp_bo.f (fun z => hb16 z.2.1)
      | exact sp_bo.f (fun z => hb27 z.2.2)
  · refine sp_aload_n X (pc := 8) (r := some (B 0)) dX12_isUp_8 rfl rfl ?_
    refine sp_getfield X (pc := 9) (c := 13) (i := 34) (t := 2) (a := (B 0)) (v := va_rf (some (B 34))) rfl hVm.r.o (by decide) rfl (congrArg va_rf hVm.f34) fl_Mo_86 dX12_isUp_9 ?_
    refine sp_iconst X (pc := 12) (v := 0) dX12_isUp_12 (by decide) ?_
    refine sp_iaload X (pc := 13) (a := (B 34)) rfl (Or.inl hVm.y34) (sp_in 0 hVm.l34 (by omega) (by decide)) dX12_isUp_13 ?_
    rw [show (m.aI (B 34) (Int32.toNatClampNeg 0)) = (m.aI (B 34) 0) from (congrArg _ (nI_clamp (n := 0) (by omega)))]
    refine sp_bipush X (pc := 14) (v := 46) dX12_isUp_14 (by decide) ?_
    refine sp_icmp_ne X (pc := 16) (tgt := 34) dX12_isUp_16 (by decide) (fun hb16 => ?_) (fun hb16 => ?_)
    · refine sp_iconst X (pc := 34) (v := 0) dX12_isUp_34 (by decide) ?_
      refine sp_ireturn X (pc := 35) dX12_isUp_35 rfl ⟨_, rfl, ?_⟩
      refine ⟨sp_bo.iff ?_ (sp_wu_up m B ws).symm, rfl⟩
      first
        | exact sp_bo.t ⟨sp_neq (b := 2) hb5 (by omega) (by decide), hb16, hb27⟩
        | exact sp_bo.f (fun z => hb5 (by rw [z.1]; rfl))
        | exact sp_bo.f (fun z => hb16 z.2.1)
        | exact sp_bo.f (fun z => hb27 z.2.2)
    · refine sp_aload_n X (pc := 19) (r := some (B 0)) dX12_isUp_19 rfl rfl ?_
      refine sp_getfield X (pc := 20) (c := 13) (i := 34) (t := 2) (a := (B 0)) (v := va_rf (some (B 34))) rfl hVm.r.o (by decide) rfl (congrArg va_rf hVm.f34) fl_Mo_86 dX12_isUp_20 ?_
      refine sp_iconst X (pc := 23) (v := 1) dX12_isUp_23 (by decide) ?_
      refine sp_iaload X (pc := 24) (a := (B 34)) rfl (Or.inl hVm.y34) (sp_in 1 hVm.l34 (by omega) (by decide)) dX12_isUp_24 ?_
      rw [show (m.aI (B 34) (Int32.toNatClampNeg 1)) = (m.aI (B 34) 1) from (congrArg _ (nI_clamp (n := 1) (by omega)))]
      refine sp_bipush X (pc := 25) (v := 46) dX12_isUp_25 (by decide) ?_
      refine sp_icmp_ne X (pc := 27) (tgt := 34) dX12_isUp_27 (by decide) (fun hb27 => ?_) (fun hb27 => ?_)
      · refine sp_iconst X (pc := 34) (v := 0) dX12_isUp_34 (by decide) ?_
        refine sp_ireturn X (pc := 35) dX12_isUp_35 rfl ⟨_, rfl, ?_⟩
        refine ⟨sp_bo.iff ?_ (sp_wu_up m B ws).symm, rfl⟩
        first
          | exact sp_bo.t ⟨sp_neq (b := 2) hb5 (by omega) (by decide), hb16, hb27⟩
          | exact sp_bo.f (fun z => hb5 (by rw [z.1]; rfl))
          | exact sp_bo.f (fun z => hb16 z.2.1)
          | exact sp_bo.f (fun z => hb27 z.2.2)
      · refine sp_iconst X (pc := 30) (v := 1) dX12_isUp_30 (by decide) ?_
        refine sp_goto X (pc := 31) (tgt := 35) dX12_isUp_31 (by decide) ?_
        refine sp_ireturn X (pc := 35) dX12_isUp_35 rfl ⟨_, rfl, ?_⟩
        refine ⟨sp_bo.iff ?_ (sp_wu_up m B ws).symm, rfl⟩
        first
          | exact sp_bo.t ⟨sp_neq (b := 2) hb5 (by omega) (by decide), hb16, hb27⟩
          | exact sp_bo.f (fun z => hb5 (by rw [z.1]; rfl))
          | exact sp_bo.f (fun z => hb16 z.2.1)
          | exact sp_bo.f (fun z => hb27 z.2.2)
set_option maxRecDepth 20000 in
theorem c_Mo_isLike (l : Launch) (G : sp_G) (m : sp_M) {B : Nat → Nat} {m0 : sp_M} {D : Nat → Int32} {R : Int32} {l0 l1 : Int64} {d n b p t e L ws : Nat} {vq vm vl : Int32} {vs : Int64} {vA vE : Nat → Int64} (hVm : sp_V B m0 m D R l0 l1 d n b p t e L ws vq vm vl vs vA vE) {x y z : Int32} : sp_C l G M_Mo_isLike 0 0 [.ref (B 0), .int 0, .int x, .int y, .int z] m (sp_oI fun v m' => sp_bo v (sp_l3 m B x y z) ∧ m' = m) := by
  refine sp_enter (lv0 := [(0, false, va_rf (some (B 0))), (1, false, .int 0), (2, false, .int x), (3, false, .int y), (4, false, .int z)]) "SafePathsModel" false rfl (by decide) (fun h => by cases h) (Nat.le_of_ble_eq_true rfl) rfl ?_
  intro w X
  have bd := hVm.hd
  have bn := hVm.hn
  have bb := hVm.hb
  have bp := hVm.hp
  have bt := hVm.ht
  have be := hVm.he
  have bw := hVm.hw
  have bL := hVm.hL
  refine sp_aload_n X (pc := 0) (r := some (B 0)) dX12_isLike_0 rfl rfl ?_
  refine sp_getfield X (pc := 1) (c := 13) (i := 34) (t := 2) (a := (B 0)) (v := va_rf (some (B 34))) rfl hVm.r.o (by decide) rfl (congrArg va_rf hVm.f34) fl_Mo_86 dX12_isLike_1 ?_
  refine sp_iload_n X (pc := 4) (x := 0) dX12_isLike_4 rfl rfl ?_
  refine sp_iaload X (pc := 5) (a := (B 34)) rfl (Or.inl hVm.y34) (sp_in 0 hVm.l34 (by omega) (by decide)) dX12_isLike_5 ?_
  rw [show (m.aI (B 34) (Int32.toNatClampNeg 0)) = (m.aI (B 34) 0) from (congrArg _ (nI_clamp (n := 0) (by omega)))]
  refine sp_callS X (pc := 6) (mc := 0) (ms := 0) (As := [.int (m.aI (B 34) 0)]) (rest := []) (c_Mo_small l G _) ok_Mo_small lk_Mo_128 rfl rfl (Nat.zero_le _) (Nat.le_of_ble_eq_true rfl) (Nat.le_of_ble_eq_true rfl) (Nat.zero_le _) (Nat.zero_le _) dX12_isLike_6 (sp_kI fun v6 m6 hp6 => ?_)
  obtain ⟨hp6v, hp6⟩ := hp6; replace hp6 := (hp6).symm; subst hp6; replace hp6v := (hp6v).symm; subst hp6v
  refine sp_iload_n X (pc := 9) (x := x) dX12_isLike_9 rfl rfl ?_
  refine sp_icmp_ne X (pc := 10) (tgt := 48) dX12_isLike_10 (by decide) (fun hb10 => ?_) (fun hb10 => ?_)
  · refine sp_iconst X (pc := 48) (v := 0) dX12_isLike_48 (by decide) ?_
    refine sp_ireturn X (pc := 49) dX12_isLike_49 rfl ⟨_, rfl, ?_⟩
    first
      | exact ⟨sp_bo.t ⟨hb10, hb25, hb41⟩, rfl⟩
      | exact ⟨sp_bo.f (fun z => hb10 z.1), rfl⟩
      | exact ⟨sp_bo.f (fun z => hb25 z.2.1), rfl⟩
      | exact ⟨sp_bo.f (fun z => hb41 z.2.2), rfl⟩
  · refine sp_aload_n X (pc := 13) (r := some (B 0)) dX12_isLike_13 rfl rfl ?_
    refine sp_getfield X (pc := 14) (c := 13) (i := 34) (t := 2) (a := (B 0)) (v := va_rf (some (B 34))) rfl hVm.r.o (by decide) rfl (congrArg va_rf hVm.f34) fl_Mo_86 dX12_isLike_14 ?_
    refine sp_iload_n X (pc := 17) (x := 0) dX12_isLike_17 rfl rfl ?_
    refine sp_iconst X (pc := 18) (v := 1) dX12_isLike_18 (by decide) ?_
    refine sp_iadd X (pc := 19) dX12_isLike_19 ?_
    rw [show (0 + 1) = (nI (0 + 1)) from (nI_add 0 1)]
    refine sp_iaload X (pc := 20) (a := (B 34)) rfl (Or.inl hVm.y34) (sp_in (0 + 1) hVm.l34 (by omega) (by decide)) dX12_isLike_20 ?_
    rw [show (m.aI (B 34) (nI (0 + 1)).toNatClampNeg) = (m.aI (B 34) (0 + 1)) from (congrArg _ (nI_clamp (n := (0 + 1)) (by omega)))]
    refine sp_callS X (pc := 21) (mc := 0) (ms := 0) (As := [.int (m.aI (B 34) (0 + 1))]) (rest := []) (c_Mo_small l G _) ok_Mo_small lk_Mo_128 rfl rfl (Nat.zero_le _) (Nat.le_of_ble_eq_true rfl) (Nat.le_of_ble_eq_true rfl) (Nat.zero_le _) (Nat.zero_le _) dX12_isLike_21 (sp_kI fun v21 m21 hp21 => ?_)
    obtain ⟨hp21v, hp21⟩ := hp21; replace hp21 := (hp21).symm; subst hp21; replace hp21v := (hp21v).symm; subst hp21v
    refine sp_iload_n X (pc := 24) (x := y) dX12_isLike_24 rfl rfl ?_
    refine sp_icmp_ne X (pc := 25) (tgt := 48) dX12_isLike_25 (by decide) (fun hb25 => ?_) (fun hb25 => ?_)
    · refine sp_iconst X (pc := 48) (v := 0) dX12_isLike_48 (by decide) ?_
      refine sp_ireturn X (pc := 49) dX12_isLike_49 rfl ⟨_, rfl, ?_⟩
      first
        | exact ⟨sp_bo.t ⟨hb10, hb25, hb41⟩, rfl⟩
        | exact ⟨sp_bo.f (fun z => hb10 z.1), rfl⟩
        | exact ⟨sp_bo.f (fun z => hb25 z.2.1), rfl⟩
        | exact ⟨sp_bo.f (fun z => hb41 z.2.2), rfl⟩
    · refine sp_aload_n X (pc := 28) (r := some (B 0)) dX12_isLike_28 rfl rfl ?_
      refine sp_getfield X (pc := 29) (c := 13) (i := 34) (t := 2) (a := (B 0)) (v := va_rf (some (B 34))) rfl hVm.r.o (by decide) rfl (congrArg va_rf hVm.f34) fl_Mo_86 dX12_isLike_29 ?_
      refine sp_iload_n X (pc := 32) (x := 0) dX12_isLike_32 rfl rfl ?_
      refine sp_iconst X (pc := 33) (v := 2) dX12_isLike_33 (by decide) ?_
      refine sp_iadd X (pc := 34) dX12_isLike_34 ?_
      rw [show (0 + 2) = (nI (0 + 2)) from (nI_add 0 2)]
      refine sp_iaload X (pc := 35) (a := (B 34)) rfl (Or.inl hVm.y34) (sp_in (0 + 2) hVm.l34 (by omega) (by decide)) dX12_isLike_35 ?_
      rw [show (m.aI (B 34) (nI (0 + 2)).toNatClampNeg) = (m.aI (B 34) (0 + 2)) from (congrArg _ (nI_clamp (n := (0 + 2)) (by omega)))]
      refine sp_callS X (pc := 36) (mc := 0) (ms := 0) (As := [.int (m.aI (B 34) (0 + 2))]) (rest := []) (c_Mo_small l G _) ok_Mo_small lk_Mo_128 rfl rfl (Nat.zero_le _) (Nat.le_of_ble_eq_true rfl) (Nat.le_of_ble_eq_true rfl) (Nat.zero_le _) (Nat.zero_le _) dX12_isLike_36 (sp_kI fun v36 m36 hp36 => ?_)
      obtain ⟨hp36v, hp36⟩ := hp36; replace hp36 := (hp36).symm; subst hp36; replace hp36v := (hp36v).symm; subst hp36v
      refine sp_iload X (pc := 39) (x := z) dX12_isLike_39 rfl ?_
      refine sp_icmp_ne X (pc := 41) (tgt := 48) dX12_isLike_41 (by decide) (fun hb41 => ?_) (fun hb41 => ?_)
      · refine sp_iconst X (pc := 48) (v := 0) dX12_isLike_48 (by decide) ?_
        refine sp_ireturn X (pc := 49) dX12_isLike_49 rfl ⟨_, rfl, ?_⟩
        first
          | exact ⟨sp_bo.t ⟨hb10, hb25, hb41⟩, rfl⟩
          | exact ⟨sp_bo.f (fun z => hb10 z.1), rfl⟩
          | exact ⟨sp_bo.f (fun z => hb25 z.2.1), rfl⟩
          | exact ⟨sp_bo.f (fun z => hb41 z.2.2), rfl⟩
      · refine sp_iconst X (pc := 44) (v := 1) dX12_isLike_44 (by decide) ?_
        refine sp_goto X (pc := 45) (tgt := 49) dX12_isLike_45 (by decide) ?_
        refine sp_ireturn X (pc := 49) dX12_isLike_49 rfl ⟨_, rfl, ?_⟩
        first
          | exact ⟨sp_bo.t ⟨hb10, hb25, hb41⟩, rfl⟩
          | exact ⟨sp_bo.f (fun z => hb10 z.1), rfl⟩
          | exact ⟨sp_bo.f (fun z => hb25 z.2.1), rfl⟩
          | exact ⟨sp_bo.f (fun z => hb41 z.2.2), rfl⟩
set_option maxRecDepth 20000 in
theorem c_Mo_isPath (l : Launch) (G : sp_G) (m : sp_M) {B : Nat → Nat} {m0 : sp_M} {D : Nat → Int32} {R : Int32} {l0 l1 : Int64} {d n b p t e L ws : Nat} {vq vm vl : Int32} {vs : Int64} {vA vE : Nat → Int64} (hVm : sp_V B m0 m D R l0 l1 d n b p t e L ws vq vm vl vs vA vE) {x : Int32} : sp_C l G M_Mo_isPath 0 0 [.ref (B 0), .int x] m (sp_oI fun v m' => sp_bo v (∃ j, x = nI j ∧ j < p) ∧ m' = m) := by
  refine sp_enter (lv0 := [(0, false, va_rf (some (B 0))), (1, false, .int x)]) "SafePathsModel" false rfl (by decide) (fun h => by cases h) (Nat.le_of_ble_eq_true rfl) rfl ?_
  intro w X
  have bd := hVm.hd
  have bn := hVm.hn
  have bb := hVm.hb
  have bp := hVm.hp
  have bt := hVm.ht
  have be := hVm.he
  have bw := hVm.hw
  have bL := hVm.hL
  refine sp_iload_n X (pc := 0) (x := x) dX12_isPath_0 rfl rfl ?_
  refine sp_if_lt X (pc := 1) (tgt := 16) dX12_isPath_1 (by decide) (fun hb1 => ?_) (fun hb1 => ?_)
  · refine sp_iconst X (pc := 16) (v := 0) dX12_isPath_16 (by decide) ?_
    refine sp_ireturn X (pc := 17) dX12_isPath_17 rfl ⟨_, rfl, ?_⟩
    first
      | exact ⟨sp_bo.t ⟨j, hx, hj⟩, rfl⟩
      | exact ⟨sp_bo.f (by rintro ⟨j, hx, hj⟩; rw [hx] at hb1; exact nI_pos (by omega) hb1), rfl⟩
      | exact ⟨sp_bo.f (by rintro ⟨j, hx, hj⟩; rw [hx] at hb9; have := sp_nge hb9 (by omega) (by omega); omega), rfl⟩
  · refine sp_iload_n X (pc := 4) (x := x) dX12_isPath_4 rfl rfl ?_
    refine sp_aload_n X (pc := 5) (r := some (B 0)) dX12_isPath_5 rfl rfl ?_
    refine sp_getfield X (pc := 6) (c := 13) (i := 17) (t := 0) (a := (B 0)) (v := .int (nI p)) rfl hVm.r.o (by decide) rfl (congrArg Value.int hVm.cp) fl_Mo_146 dX12_isPath_6 ?_
    refine sp_icmp_ge X (pc := 9) (tgt := 16) dX12_isPath_9 (by decide) (fun hb9 => ?_) (fun hb9 => ?_)
    · refine sp_iconst X (pc := 16) (v := 0) dX12_isPath_16 (by decide) ?_
      refine sp_ireturn X (pc := 17) dX12_isPath_17 rfl ⟨_, rfl, ?_⟩
      first
        | exact ⟨sp_bo.t ⟨j, hx, hj⟩, rfl⟩
        | exact ⟨sp_bo.f (by rintro ⟨j, hx, hj⟩; rw [hx] at hb1; exact nI_pos (by omega) hb1), rfl⟩
        | exact ⟨sp_bo.f (by rintro ⟨j, hx, hj⟩; rw [hx] at hb9; have := sp_nge hb9 (by omega) (by omega); omega), rfl⟩
    · obtain ⟨j, hj, hx⟩ := sp_idx (s := p) (by omega) hb1 hb9
      refine sp_iconst X (pc := 12) (v := 1) dX12_isPath_12 (by decide) ?_
      refine sp_goto X (pc := 13) (tgt := 17) dX12_isPath_13 (by decide) ?_
      refine sp_ireturn X (pc := 17) dX12_isPath_17 rfl ⟨_, rfl, ?_⟩
      first
        | exact ⟨sp_bo.t ⟨j, hx, hj⟩, rfl⟩
        | exact ⟨sp_bo.f (by rintro ⟨j, hx, hj⟩; rw [hx] at hb1; exact nI_pos (by omega) hb1), rfl⟩
        | exact ⟨sp_bo.f (by rintro ⟨j, hx, hj⟩; rw [hx] at hb9; have := sp_nge hb9 (by omega) (by omega); omega), rfl⟩
set_option maxRecDepth 20000 in
theorem c_Mo_isEntry (l : Launch) (G : sp_G) (m : sp_M) {B : Nat → Nat} {m0 : sp_M} {D : Nat → Int32} {R : Int32} {l0 l1 : Int64} {d n b p t e L ws : Nat} {vq vm vl : Int32} {vs : Int64} {vA vE : Nat → Int64} (hVm : sp_V B m0 m D R l0 l1 d n b p t e L ws vq vm vl vs vA vE) {x : Int32} : sp_C l G M_Mo_isEntry 0 0 [.ref (B 0), .int x] m (sp_oI fun v m' => sp_bo v (∃ j, x = nI j ∧ j < e) ∧ m' = m) := by
  refine sp_enter (lv0 := [(0, false, va_rf (some (B 0))), (1, false, .int x)]) "SafePathsModel" false rfl (by decide) (fun h => by cases h) (Nat.le_of_ble_eq_true rfl) rfl ?_
  intro w X
  have bd := hVm.hd
  have bn := hVm.hn
  have bb := hVm.hb
  have bp := hVm.hp
  have bt := hVm.ht
  have be := hVm.he
  have bw := hVm.hw
  have bL := hVm.hL
  refine sp_iload_n X (pc := 0) (x := x) dX12_isEntry_0 rfl rfl ?_
  refine sp_if_lt X (pc := 1) (tgt := 16) dX12_isEntry_1 (by decide) (fun hb1 => ?_) (fun hb1 => ?_)
  · refine sp_iconst X (pc := 16) (v := 0) dX12_isEntry_16 (by decide) ?_
    refine sp_ireturn X (pc := 17) dX12_isEntry_17 rfl ⟨_, rfl, ?_⟩
    first
      | exact ⟨sp_bo.t ⟨j, hx, hj⟩, rfl⟩
      | exact ⟨sp_bo.f (by rintro ⟨j, hx, hj⟩; rw [hx] at hb1; exact nI_pos (by omega) hb1), rfl⟩
      | exact ⟨sp_bo.f (by rintro ⟨j, hx, hj⟩; rw [hx] at hb9; have := sp_nge hb9 (by omega) (by omega); omega), rfl⟩
  · refine sp_iload_n X (pc := 4) (x := x) dX12_isEntry_4 rfl rfl ?_
    refine sp_aload_n X (pc := 5) (r := some (B 0)) dX12_isEntry_5 rfl rfl ?_
    refine sp_getfield X (pc := 6) (c := 13) (i := 24) (t := 0) (a := (B 0)) (v := .int (nI e)) rfl hVm.r.o (by decide) rfl (congrArg Value.int hVm.ce) fl_Mo_183 dX12_isEntry_6 ?_
    refine sp_icmp_ge X (pc := 9) (tgt := 16) dX12_isEntry_9 (by decide) (fun hb9 => ?_) (fun hb9 => ?_)
    · refine sp_iconst X (pc := 16) (v := 0) dX12_isEntry_16 (by decide) ?_
      refine sp_ireturn X (pc := 17) dX12_isEntry_17 rfl ⟨_, rfl, ?_⟩
      first
        | exact ⟨sp_bo.t ⟨j, hx, hj⟩, rfl⟩
        | exact ⟨sp_bo.f (by rintro ⟨j, hx, hj⟩; rw [hx] at hb1; exact nI_pos (by omega) hb1), rfl⟩
        | exact ⟨sp_bo.f (by rintro ⟨j, hx, hj⟩; rw [hx] at hb9; have := sp_nge hb9 (by omega) (by omega); omega), rfl⟩
    · obtain ⟨j, hj, hx⟩ := sp_idx (s := e) (by omega) hb1 hb9
      refine sp_iconst X (pc := 12) (v := 1) dX12_isEntry_12 (by decide) ?_
      refine sp_goto X (pc := 13) (tgt := 17) dX12_isEntry_13 (by decide) ?_
      refine sp_ireturn X (pc := 17) dX12_isEntry_17 rfl ⟨_, rfl, ?_⟩
      first
        | exact ⟨sp_bo.t ⟨j, hx, hj⟩, rfl⟩
        | exact ⟨sp_bo.f (by rintro ⟨j, hx, hj⟩; rw [hx] at hb1; exact nI_pos (by omega) hb1), rfl⟩
        | exact ⟨sp_bo.f (by rintro ⟨j, hx, hj⟩; rw [hx] at hb9; have := sp_nge hb9 (by omega) (by omega); omega), rfl⟩
set_option maxHeartbeats 1000000 in
set_option maxRecDepth 20000 in
theorem c_Mo_isBad (l : Launch) (G : sp_G) (m : sp_M) {B : Nat → Nat} {m0 : sp_M} {D : Nat → Int32} {R : Int32} {l0 l1 : Int64} {d n b p t e L ws : Nat} {vq vm vl : Int32} {vs : Int64} {vA vE : Nat → Int64} (hVm : sp_V B m0 m D R l0 l1 d n b p t e L ws vq vm vl vs vA vE) (h1 : 1 ≤ ws) : sp_C l G M_Mo_isBad 0 0 [.ref (B 0)] m (sp_oI fun v m' => sp_bo v (pu_bad R (sp_wu m B ws)) ∧ m' = m) := by
  refine sp_enter (lv0 := [(0, false, va_rf (some (B 0)))]) "SafePathsModel" false rfl (by decide) (fun h => by cases h) (Nat.le_of_ble_eq_true rfl) rfl ?_
  intro w X
  have bd := hVm.hd
  have bn := hVm.hn
  have bb := hVm.hb
  have bp := hVm.hp
  have bt := hVm.ht
  have be := hVm.he
  have bw := hVm.hw
  have bL := hVm.hL
  have cut275 : ∀ (x u : Int32) (s : Nat), ¬ sp_hr R 8 = 0 → (∀ i, i < ws → ¬ (m.aI (B 34) i < 32 ∨ m.aI (B 34) i = 127) ∧ ¬ pu_mk (m.aI (B 34) i)) → sp_mst m B ws s → sp_bo x (s = 3 ∧ (sp_l3 m B 99 111 110 ∨ sp_l3 m B 112 114 110 ∨ sp_l3 m B 97 117 120 ∨ sp_l3 m B 110 117 108)) → sp_bo u (s = 4 ∧ (sp_l3 m B 99 111 109 ∨ sp_l3 m B 108 112 116) ∧ 49 ≤ m.aI (B 34) 3 ∧ m.aI (B 34) 3 ≤ 57) → w 0 0 m 275 [(0, false, va_rf (some (B 0))), (1, false, .int (m.aI (B 34) (ws - 1))), (3, false, .int x)] [.int u] := by
    intro x u s h8 hno hst hx hu
    refine sp_istore X (pc := 275) (lv' := [(4, false, .int u), (0, false, va_rf (some (B 0))), (1, false, .int (m.aI (B 34) (ws - 1))), (3, false, .int x)]) dX12_isBad_275  (by decide) rfl ?_
    refine sp_iload_n X (pc := 277) (x := (m.aI (B 34) (ws - 1))) dX12_isBad_277 rfl rfl ?_
    refine sp_bipush X (pc := 278) (v := 46) dX12_isBad_278 (by decide) ?_
    refine sp_icmp_eq X (pc := 280) (tgt := 298) dX12_isBad_280 (by decide) (fun hb280 => ?_) (fun hb280 => ?_)
    · refine sp_iconst X (pc := 298) (v := 1) dX12_isBad_298 (by decide) ?_
      refine sp_goto X (pc := 299) (tgt := 303) dX12_isBad_299 (by decide) ?_
      refine sp_ireturn X (pc := 303) dX12_isBad_303 rfl ⟨_, rfl, ?_⟩
      refine ⟨sp_wu_bad h1 h8 hno hst hx hu ?_, rfl⟩
      first
        | exact sp_bo.t (Or.inl hb280)
        | exact sp_bo.t (Or.inr (Or.inl hb286))
        | exact sp_bo.t (Or.inr (Or.inr (Or.inl hb290)))
        | exact sp_bo.t (Or.inr (Or.inr (Or.inr hb295)))
        | exact sp_bo.f (fun z => by
            rcases z with z | z | z | z
            · exact hb280 z
            · exact hb286 z
            · exact z hb290
            · exact z hb295)
    · refine sp_iload_n X (pc := 283) (x := (m.aI (B 34) (ws - 1))) dX12_isBad_283 rfl rfl ?_
      refine sp_bipush X (pc := 284) (v := 32) dX12_isBad_284 (by decide) ?_
      refine sp_icmp_eq X (pc := 286) (tgt := 298) dX12_isBad_286 (by decide) (fun hb286 => ?_) (fun hb286 => ?_)
      · refine sp_iconst X (pc := 298) (v := 1) dX12_isBad_298 (by decide) ?_
        refine sp_goto X (pc := 299) (tgt := 303) dX12_isBad_299 (by decide) ?_
        refine sp_ireturn X (pc := 303) dX12_isBad_303 rfl ⟨_, rfl, ?_⟩
        refine ⟨sp_wu_bad h1 h8 hno hst hx hu ?_, rfl⟩
        first
          | exact sp_bo.t (Or.inl hb280)
          | exact sp_bo.t (Or.inr (Or.inl hb286))
          | exact sp_bo.t (Or.inr (Or.inr (Or.inl hb290)))
          | exact sp_bo.t (Or.inr (Or.inr (Or.inr hb295)))
          | exact sp_bo.f (fun z => by
              rcases z with z | z | z | z
              · exact hb280 z
              · exact hb286 z
              · exact z hb290
              · exact z hb295)
      · refine sp_iload_n X (pc := 289) (x := x) dX12_isBad_289 rfl rfl ?_
        refine sp_if_ne X (pc := 290) (tgt := 298) dX12_isBad_290 (by decide) (fun hb290 => ?_) (fun hb290 => ?_)
        · refine sp_iconst X (pc := 298) (v := 1) dX12_isBad_298 (by decide) ?_
          refine sp_goto X (pc := 299) (tgt := 303) dX12_isBad_299 (by decide) ?_
          refine sp_ireturn X (pc := 303) dX12_isBad_303 rfl ⟨_, rfl, ?_⟩
          refine ⟨sp_wu_bad h1 h8 hno hst hx hu ?_, rfl⟩
          first
            | exact sp_bo.t (Or.inl hb280)
            | exact sp_bo.t (Or.inr (Or.inl hb286))
            | exact sp_bo.t (Or.inr (Or.inr (Or.inl hb290)))
            | exact sp_bo.t (Or.inr (Or.inr (Or.inr hb295)))
            | exact sp_bo.f (fun z => by
                rcases z with z | z | z | z
                · exact hb280 z
                · exact hb286 z
                · exact z hb290
                · exact z hb295)
        · refine sp_iload X (pc := 293) (x := u) dX12_isBad_293 rfl ?_
          refine sp_if_eq X (pc := 295) (tgt := 302) dX12_isBad_295 (by decide) (fun hb295 => ?_) (fun hb295 => ?_)
          · refine sp_iconst X (pc := 302) (v := 0) dX12_isBad_302 (by decide) ?_
            refine sp_ireturn X (pc := 303) dX12_isBad_303 rfl ⟨_, rfl, ?_⟩
            refine ⟨sp_wu_bad h1 h8 hno hst hx hu ?_, rfl⟩
            first
              | exact sp_bo.t (Or.inl hb280)
              | exact sp_bo.t (Or.inr (Or.inl hb286))
              | exact sp_bo.t (Or.inr (Or.inr (Or.inl hb290)))
              | exact sp_bo.t (Or.inr (Or.inr (Or.inr hb295)))
              | exact sp_bo.f (fun z => by
                  rcases z with z | z | z | z
                  · exact hb280 z
                  · exact hb286 z
                  · exact z hb290
                  · exact z hb295)
          · refine sp_iconst X (pc := 298) (v := 1) dX12_isBad_298 (by decide) ?_
            refine sp_goto X (pc := 299) (tgt := 303) dX12_isBad_299 (by decide) ?_
            refine sp_ireturn X (pc := 303) dX12_isBad_303 rfl ⟨_, rfl, ?_⟩
            refine ⟨sp_wu_bad h1 h8 hno hst hx hu ?_, rfl⟩
            first
              | exact sp_bo.t (Or.inl hb280)
              | exact sp_bo.t (Or.inr (Or.inl hb286))
              | exact sp_bo.t (Or.inr (Or.inr (Or.inl hb290)))
              | exact sp_bo.t (Or.inr (Or.inr (Or.inr hb295)))
              | exact sp_bo.f (fun z => by
                  rcases z with z | z | z | z
                  · exact hb280 z
                  · exact hb286 z
                  · exact z hb290
                  · exact z hb295)
  have cut214 : ∀ (u : Int32) (s : Nat), ¬ sp_hr R 8 = 0 → (∀ i, i < ws → ¬ (m.aI (B 34) i < 32 ∨ m.aI (B 34) i = 127) ∧ ¬ pu_mk (m.aI (B 34) i)) → sp_mst m B ws s → sp_bo u (s = 3 ∧ (sp_l3 m B 99 111 110 ∨ sp_l3 m B 112 114 110 ∨ sp_l3 m B 97 117 120 ∨ sp_l3 m B 110 117 108)) → w 0 0 m 214 [(0, false, va_rf (some (B 0))), (1, false, .int (m.aI (B 34) (ws - 1))), (2, false, .int (nI s))] [.int u] := by
    intro u s h8 hno hst hx
    refine sp_istore_n X (pc := 214) (lv' := [(3, false, .int u), (0, false, va_rf (some (B 0))), (1, false, .int (m.aI (B 34) (ws - 1))), (2, false, .int (nI s))]) dX12_isBad_214 rfl (by decide) rfl ?_
    refine sp_iload_n X (pc := 215) (x := nI s) dX12_isBad_215 rfl rfl ?_
    refine sp_iconst X (pc := 216) (v := 4) dX12_isBad_216 (by decide) ?_
    refine sp_icmp_ne X (pc := 217) (tgt := 274) dX12_isBad_217 (by decide) (fun hb217 => ?_) (fun hb217 => ?_)
    · have hs4 : ¬ s = 4 := fun z => hb217 (by rw [z]; rfl)
      refine sp_iconst X (pc := 274) (v := 0) dX12_isBad_274 (by decide) ?_
      refine sp_pick X [1, 2, 0] (lv' := [(0, false, va_rf (some (B 0))), (1, false, .int (m.aI (B 34) (ws - 1))), (3, false, .int u)]) rfl ?_
      first
        | exact cut275 _ 0 s h8 hno hst hx (sp_bo.f (fun z => hs4 z.1))
        | exact cut275 _ 1 s h8 hno hst hx (sp_bo.t ⟨hs4, Or.inl (hp228.ne hb231), Int32.not_lt.mp hb256, Int32.not_lt.mp hb267⟩)
        | exact cut275 _ 1 s h8 hno hst hx (sp_bo.t ⟨hs4, Or.inr (hp242.ne hb245), Int32.not_lt.mp hb256, Int32.not_lt.mp hb267⟩)
        | exact cut275 _ 0 s h8 hno hst hx (sp_bo.f (fun z => hb256 |> fun q => absurd q (Int32.not_lt.mpr z.2.2.1)))
        | exact cut275 _ 0 s h8 hno hst hx (sp_bo.f (fun z => hb267 |> fun q => absurd q (Int32.not_lt.mpr z.2.2.2)))
        | exact cut275 _ 0 s h8 hno hst hx (sp_bo.f (by
            rintro ⟨-, z | z, -⟩
            · exact hp228.eq hb231 z
            · exact hp242.eq hb245 z))
    · have hs4 : s = 4 := sp_neq (b := 4) hb217 (by have := hst.1; omega) (by decide)
      refine sp_aload_n X (pc := 220) (r := some (B 0)) dX12_isBad_220 rfl rfl ?_
      refine sp_iconst X (pc := 221) (v := 0) dX12_isBad_221 (by decide) ?_
      refine sp_bipush X (pc := 222) (v := 99) dX12_isBad_222 (by decide) ?_
      refine sp_bipush X (pc := 224) (v := 111) dX12_isBad_224 (by decide) ?_
      refine sp_bipush X (pc := 226) (v := 109) dX12_isBad_226 (by decide) ?_
      refine sp_callV X (pc := 228) (mc := 0) (ms := 0) (b := (B 0)) (c := 13) (r := some (B 0)) (As := [.int 0, .int 99, .int 111, .int 109]) (rest := []) (c_Mo_isLike l G _ hVm) ok_Mo_isLike rfl hVm.r.o (by decide) rfl lk_Mo_132 rfl rfl (Nat.zero_le _) (Nat.le_of_ble_eq_true rfl) (Nat.le_of_ble_eq_true rfl) (Nat.zero_le _) (Nat.zero_le _) dX12_isBad_228 (sp_kI fun v228 m228 hp228 => ?_)
      obtain ⟨hp228, hp228m⟩ := hp228; replace hp228m := (hp228m).symm; subst hp228m
      refine sp_if_ne X (pc := 231) (tgt := 248) dX12_isBad_231 (by decide) (fun hb231 => ?_) (fun hb231 => ?_)
      · refine sp_aload_n X (pc := 248) (r := some (B 0)) dX12_isBad_248 rfl rfl ?_
        refine sp_getfield X (pc := 249) (c := 13) (i := 34) (t := 2) (a := (B 0)) (v := va_rf (some (B 34))) rfl hVm.r.o (by decide) rfl (congrArg va_rf hVm.f34) fl_Mo_86 dX12_isBad_249 ?_
        refine sp_iconst X (pc := 252) (v := 3) dX12_isBad_252 (by decide) ?_
        refine sp_iaload X (pc := 253) (a := (B 34)) rfl (Or.inl hVm.y34) (sp_in 3 hVm.l34 (by omega) (by decide)) dX12_isBad_253 ?_
        rw [show (m.aI (B 34) (Int32.toNatClampNeg 3)) = (m.aI (B 34) 3) from (congrArg _ (nI_clamp (n := 3) (by omega)))]
        refine sp_bipush X (pc := 254) (v := 49) dX12_isBad_254 (by decide) ?_
        refine sp_icmp_lt X (pc := 256) (tgt := 274) dX12_isBad_256 (by decide) (fun hb256 => ?_) (fun hb256 => ?_)
        · refine sp_iconst X (pc := 274) (v := 0) dX12_isBad_274 (by decide) ?_
          refine sp_pick X [1, 2, 0] (lv' := [(0, false, va_rf (some (B 0))), (1, false, .int (m.aI (B 34) (ws - 1))), (3, false, .int u)]) rfl ?_
          first
            | exact cut275 _ 0 s h8 hno hst hx (sp_bo.f (fun z => hs4 z.1))
            | exact cut275 _ 1 s h8 hno hst hx (sp_bo.t ⟨hs4, Or.inl (hp228.ne hb231), Int32.not_lt.mp hb256, Int32.not_lt.mp hb267⟩)
            | exact cut275 _ 1 s h8 hno hst hx (sp_bo.t ⟨hs4, Or.inr (hp242.ne hb245), Int32.not_lt.mp hb256, Int32.not_lt.mp hb267⟩)
            | exact cut275 _ 0 s h8 hno hst hx (sp_bo.f (fun z => hb256 |> fun q => absurd q (Int32.not_lt.mpr z.2.2.1)))
            | exact cut275 _ 0 s h8 hno hst hx (sp_bo.f (fun z => hb267 |> fun q => absurd q (Int32.not_lt.mpr z.2.2.2)))
            | exact cut275 _ 0 s h8 hno hst hx (sp_bo.f (by
                rintro ⟨-, z | z, -⟩
                · exact hp228.eq hb231 z
                · exact hp242.eq hb245 z))
        · refine sp_aload_n X (pc := 259) (r := some (B 0)) dX12_isBad_259 rfl rfl ?_
          refine sp_getfield X (pc := 260) (c := 13) (i := 34) (t := 2) (a := (B 0)) (v := va_rf (some (B 34))) rfl hVm.r.o (by decide) rfl (congrArg va_rf hVm.f34) fl_Mo_86 dX12_isBad_260 ?_
          refine sp_iconst X (pc := 263) (v := 3) dX12_isBad_263 (by decide) ?_
          refine sp_iaload X (pc := 264) (a := (B 34)) rfl (Or.inl hVm.y34) (sp_in 3 hVm.l34 (by omega) (by decide)) dX12_isBad_264 ?_
          rw [show (m.aI (B 34) (Int32.toNatClampNeg 3)) = (m.aI (B 34) 3) from (congrArg _ (nI_clamp (n := 3) (by omega)))]
          refine sp_bipush X (pc := 265) (v := 57) dX12_isBad_265 (by decide) ?_
          refine sp_icmp_gt X (pc := 267) (tgt := 274) dX12_isBad_267 (by decide) (fun hb267 => ?_) (fun hb267 => ?_)
          · refine sp_iconst X (pc := 274) (v := 0) dX12_isBad_274 (by decide) ?_
            refine sp_pick X [1, 2, 0] (lv' := [(0, false, va_rf (some (B 0))), (1, false, .int (m.aI (B 34) (ws - 1))), (3, false, .int u)]) rfl ?_
            first
              | exact cut275 _ 0 s h8 hno hst hx (sp_bo.f (fun z => hs4 z.1))
              | exact cut275 _ 1 s h8 hno hst hx (sp_bo.t ⟨hs4, Or.inl (hp228.ne hb231), Int32.not_lt.mp hb256, Int32.not_lt.mp hb267⟩)
              | exact cut275 _ 1 s h8 hno hst hx (sp_bo.t ⟨hs4, Or.inr (hp242.ne hb245), Int32.not_lt.mp hb256, Int32.not_lt.mp hb267⟩)
              | exact cut275 _ 0 s h8 hno hst hx (sp_bo.f (fun z => hb256 |> fun q => absurd q (Int32.not_lt.mpr z.2.2.1)))
              | exact cut275 _ 0 s h8 hno hst hx (sp_bo.f (fun z => hb267 |> fun q => absurd q (Int32.not_lt.mpr z.2.2.2)))
              | exact cut275 _ 0 s h8 hno hst hx (sp_bo.f (by
                  rintro ⟨-, z | z, -⟩
                  · exact hp228.eq hb231 z
                  · exact hp242.eq hb245 z))
          · refine sp_iconst X (pc := 270) (v := 1) dX12_isBad_270 (by decide) ?_
            refine sp_goto X (pc := 271) (tgt := 275) dX12_isBad_271 (by decide) ?_
            refine sp_pick X [1, 2, 0] (lv' := [(0, false, va_rf (some (B 0))), (1, false, .int (m.aI (B 34) (ws - 1))), (3, false, .int u)]) rfl ?_
            first
              | exact cut275 _ 0 s h8 hno hst hx (sp_bo.f (fun z => hs4 z.1))
              | exact cut275 _ 1 s h8 hno hst hx (sp_bo.t ⟨hs4, Or.inl (hp228.ne hb231), Int32.not_lt.mp hb256, Int32.not_lt.mp hb267⟩)
              | exact cut275 _ 1 s h8 hno hst hx (sp_bo.t ⟨hs4, Or.inr (hp242.ne hb245), Int32.not_lt.mp hb256, Int32.not_lt.mp hb267⟩)
              | exact cut275 _ 0 s h8 hno hst hx (sp_bo.f (fun z => hb256 |> fun q => absurd q (Int32.not_lt.mpr z.2.2.1)))
              | exact cut275 _ 0 s h8 hno hst hx (sp_bo.f (fun z => hb267 |> fun q => absurd q (Int32.not_lt.mpr z.2.2.2)))
              | exact cut275 _ 0 s h8 hno hst hx (sp_bo.f (by
                  rintro ⟨-, z | z, -⟩
                  · exact hp228.eq hb231 z
                  · exact hp242.eq hb245 z))
      · refine sp_aload_n X (pc := 234) (r := some (B 0)) dX12_isBad_234 rfl rfl ?_
        refine sp_iconst X (pc := 235) (v := 0) dX12_isBad_235 (by decide) ?_
        refine sp_bipush X (pc := 236) (v := 108) dX12_isBad_236 (by decide) ?_
        refine sp_bipush X (pc := 238) (v := 112) dX12_isBad_238 (by decide) ?_
        refine sp_bipush X (pc := 240) (v := 116) dX12_isBad_240 (by decide) ?_
        refine sp_callV X (pc := 242) (mc := 0) (ms := 0) (b := (B 0)) (c := 13) (r := some (B 0)) (As := [.int 0, .int 108, .int 112, .int 116]) (rest := []) (c_Mo_isLike l G _ hVm) ok_Mo_isLike rfl hVm.r.o (by decide) rfl lk_Mo_132 rfl rfl (Nat.zero_le _) (Nat.le_of_ble_eq_true rfl) (Nat.le_of_ble_eq_true rfl) (Nat.zero_le _) (Nat.zero_le _) dX12_isBad_242 (sp_kI fun v242 m242 hp242 => ?_)
        obtain ⟨hp242, hp242m⟩ := hp242; replace hp242m := (hp242m).symm; subst hp242m
        refine sp_if_eq X (pc := 245) (tgt := 274) dX12_isBad_245 (by decide) (fun hb245 => ?_) (fun hb245 => ?_)
        · refine sp_iconst X (pc := 274) (v := 0) dX12_isBad_274 (by decide) ?_
          refine sp_pick X [1, 2, 0] (lv' := [(0, false, va_rf (some (B 0))), (1, false, .int (m.aI (B 34) (ws - 1))), (3, false, .int u)]) rfl ?_
          first
            | exact cut275 _ 0 s h8 hno hst hx (sp_bo.f (fun z => hs4 z.1))
            | exact cut275 _ 1 s h8 hno hst hx (sp_bo.t ⟨hs4, Or.inl (hp228.ne hb231), Int32.not_lt.mp hb256, Int32.not_lt.mp hb267⟩)
            | exact cut275 _ 1 s h8 hno hst hx (sp_bo.t ⟨hs4, Or.inr (hp242.ne hb245), Int32.not_lt.mp hb256, Int32.not_lt.mp hb267⟩)
            | exact cut275 _ 0 s h8 hno hst hx (sp_bo.f (fun z => hb256 |> fun q => absurd q (Int32.not_lt.mpr z.2.2.1)))
            | exact cut275 _ 0 s h8 hno hst hx (sp_bo.f (fun z => hb267 |> fun q => absurd q (Int32.not_lt.mpr z.2.2.2)))
            | exact cut275 _ 0 s h8 hno hst hx (sp_bo.f (by
                rintro ⟨-, z | z, -⟩
                · exact hp228.eq hb231 z
                · exact hp242.eq hb245 z))
        · refine sp_aload_n X (pc := 248) (r := some (B 0)) dX12_isBad_248 rfl rfl ?_
          refine sp_getfield X (pc := 249) (c := 13) (i := 34) (t := 2) (a := (B 0)) (v := va_rf (some (B 34))) rfl hVm.r.o (by decide) rfl (congrArg va_rf hVm.f34) fl_Mo_86 dX12_isBad_249 ?_
          refine sp_iconst X (pc := 252) (v := 3) dX12_isBad_252 (by decide) ?_
          refine sp_iaload X (pc := 253) (a := (B 34)) rfl (Or.inl hVm.y34) (sp_in 3 hVm.l34 (by omega) (by decide)) dX12_isBad_253 ?_
          rw [show (m.aI (B 34) (Int32.toNatClampNeg 3)) = (m.aI (B 34) 3) from (congrArg _ (nI_clamp (n := 3) (by omega)))]
          refine sp_bipush X (pc := 254) (v := 49) dX12_isBad_254 (by decide) ?_
          refine sp_icmp_lt X (pc := 256) (tgt := 274) dX12_isBad_256 (by decide) (fun hb256 => ?_) (fun hb256 => ?_)
          · refine sp_iconst X (pc := 274) (v := 0) dX12_isBad_274 (by decide) ?_
            refine sp_pick X [1, 2, 0] (lv' := [(0, false, va_rf (some (B 0))), (1, false, .int (m.aI (B 34) (ws - 1))), (3, false, .int u)]) rfl ?_
            first
              | exact cut275 _ 0 s h8 hno hst hx (sp_bo.f (fun z => hs4 z.1))
              | exact cut275 _ 1 s h8 hno hst hx (sp_bo.t ⟨hs4, Or.inl (hp228.ne hb231), Int32.not_lt.mp hb256, Int32.not_lt.mp hb267⟩)
              | exact cut275 _ 1 s h8 hno hst hx (sp_bo.t ⟨hs4, Or.inr (hp242.ne hb245), Int32.not_lt.mp hb256, Int32.not_lt.mp hb267⟩)
              | exact cut275 _ 0 s h8 hno hst hx (sp_bo.f (fun z => hb256 |> fun q => absurd q (Int32.not_lt.mpr z.2.2.1)))
              | exact cut275 _ 0 s h8 hno hst hx (sp_bo.f (fun z => hb267 |> fun q => absurd q (Int32.not_lt.mpr z.2.2.2)))
              | exact cut275 _ 0 s h8 hno hst hx (sp_bo.f (by
                  rintro ⟨-, z | z, -⟩
                  · exact hp228.eq hb231 z
                  · exact hp242.eq hb245 z))
          · refine sp_aload_n X (pc := 259) (r := some (B 0)) dX12_isBad_259 rfl rfl ?_
            refine sp_getfield X (pc := 260) (c := 13) (i := 34) (t := 2) (a := (B 0)) (v := va_rf (some (B 34))) rfl hVm.r.o (by decide) rfl (congrArg va_rf hVm.f34) fl_Mo_86 dX12_isBad_260 ?_
            refine sp_iconst X (pc := 263) (v := 3) dX12_isBad_263 (by decide) ?_
            refine sp_iaload X (pc := 264) (a := (B 34)) rfl (Or.inl hVm.y34) (sp_in 3 hVm.l34 (by omega) (by decide)) dX12_isBad_264 ?_
            rw [show (m.aI (B 34) (Int32.toNatClampNeg 3)) = (m.aI (B 34) 3) from (congrArg _ (nI_clamp (n := 3) (by omega)))]
            refine sp_bipush X (pc := 265) (v := 57) dX12_isBad_265 (by decide) ?_
            refine sp_icmp_gt X (pc := 267) (tgt := 274) dX12_isBad_267 (by decide) (fun hb267 => ?_) (fun hb267 => ?_)
            · refine sp_iconst X (pc := 274) (v := 0) dX12_isBad_274 (by decide) ?_
              refine sp_pick X [1, 2, 0] (lv' := [(0, false, va_rf (some (B 0))), (1, false, .int (m.aI (B 34) (ws - 1))), (3, false, .int u)]) rfl ?_
              first
                | exact cut275 _ 0 s h8 hno hst hx (sp_bo.f (fun z => hs4 z.1))
                | exact cut275 _ 1 s h8 hno hst hx (sp_bo.t ⟨hs4, Or.inl (hp228.ne hb231), Int32.not_lt.mp hb256, Int32.not_lt.mp hb267⟩)
                | exact cut275 _ 1 s h8 hno hst hx (sp_bo.t ⟨hs4, Or.inr (hp242.ne hb245), Int32.not_lt.mp hb256, Int32.not_lt.mp hb267⟩)
                | exact cut275 _ 0 s h8 hno hst hx (sp_bo.f (fun z => hb256 |> fun q => absurd q (Int32.not_lt.mpr z.2.2.1)))
                | exact cut275 _ 0 s h8 hno hst hx (sp_bo.f (fun z => hb267 |> fun q => absurd q (Int32.not_lt.mpr z.2.2.2)))
                | exact cut275 _ 0 s h8 hno hst hx (sp_bo.f (by
                    rintro ⟨-, z | z, -⟩
                    · exact hp228.eq hb231 z
                    · exact hp242.eq hb245 z))
            · refine sp_iconst X (pc := 270) (v := 1) dX12_isBad_270 (by decide) ?_
              refine sp_goto X (pc := 271) (tgt := 275) dX12_isBad_271 (by decide) ?_
              refine sp_pick X [1, 2, 0] (lv' := [(0, false, va_rf (some (B 0))), (1, false, .int (m.aI (B 34) (ws - 1))), (3, false, .int u)]) rfl ?_
              first
                | exact cut275 _ 0 s h8 hno hst hx (sp_bo.f (fun z => hs4 z.1))
                | exact cut275 _ 1 s h8 hno hst hx (sp_bo.t ⟨hs4, Or.inl (hp228.ne hb231), Int32.not_lt.mp hb256, Int32.not_lt.mp hb267⟩)
                | exact cut275 _ 1 s h8 hno hst hx (sp_bo.t ⟨hs4, Or.inr (hp242.ne hb245), Int32.not_lt.mp hb256, Int32.not_lt.mp hb267⟩)
                | exact cut275 _ 0 s h8 hno hst hx (sp_bo.f (fun z => hb256 |> fun q => absurd q (Int32.not_lt.mpr z.2.2.1)))
                | exact cut275 _ 0 s h8 hno hst hx (sp_bo.f (fun z => hb267 |> fun q => absurd q (Int32.not_lt.mpr z.2.2.2)))
                | exact cut275 _ 0 s h8 hno hst hx (sp_bo.f (by
                    rintro ⟨-, z | z, -⟩
                    · exact hp228.eq hb231 z
                    · exact hp242.eq hb245 z))
  have cut148 : ∀ (s : Nat), ¬ sp_hr R 8 = 0 → (∀ i, i < ws → ¬ (m.aI (B 34) i < 32 ∨ m.aI (B 34) i = 127) ∧ ¬ pu_mk (m.aI (B 34) i)) → sp_mst m B ws s → w 0 0 m 148 [(0, false, va_rf (some (B 0))), (1, false, .int (m.aI (B 34) (ws - 1))), (2, false, .int (nI s))] [] := by
    intro s h8 hno hst
    refine sp_iload_n X (pc := 148) (x := nI s) dX12_isBad_148 rfl rfl ?_
    refine sp_iconst X (pc := 149) (v := 3) dX12_isBad_149 (by decide) ?_
    refine sp_icmp_ne X (pc := 150) (tgt := 213) dX12_isBad_150 (by decide) (fun hb150 => ?_) (fun hb150 => ?_)
    · have hs3 : ¬ s = 3 := fun z => hb150 (by rw [z]; rfl)
      refine sp_iconst X (pc := 213) (v := 0) dX12_isBad_213 (by decide) ?_
      first
        | exact cut214 0 _ h8 hno hst (sp_bo.f (fun z => hs3 z.1))
        | exact cut214 1 _ h8 hno hst (sp_bo.t ⟨hs3, Or.inl (hp161.ne hb164)⟩)
        | exact cut214 1 _ h8 hno hst (sp_bo.t ⟨hs3, Or.inr (Or.inl (hp175.ne hb178))⟩)
        | exact cut214 1 _ h8 hno hst (sp_bo.t ⟨hs3, Or.inr (Or.inr (Or.inl (hp189.ne hb192)))⟩)
        | exact cut214 1 _ h8 hno hst (sp_bo.t ⟨hs3, Or.inr (Or.inr (Or.inr (hp203.ne hb206)))⟩)
        | exact cut214 0 _ h8 hno hst (sp_bo.f (by
            rintro ⟨-, z | z | z | z⟩
            · exact hp161.eq hb164 z
            · exact hp175.eq hb178 z
            · exact hp189.eq hb192 z
            · exact hp203.eq hb206 z))
    · have hs3 : s = 3 := sp_neq (b := 3) hb150 (by have := hst.1; omega) (by decide)
      refine sp_aload_n X (pc := 153) (r := some (B 0)) dX12_isBad_153 rfl rfl ?_
      refine sp_iconst X (pc := 154) (v := 0) dX12_isBad_154 (by decide) ?_
      refine sp_bipush X (pc := 155) (v := 99) dX12_isBad_155 (by decide) ?_
      refine sp_bipush X (pc := 157) (v := 111) dX12_isBad_157 (by decide) ?_
      refine sp_bipush X (pc := 159) (v := 110) dX12_isBad_159 (by decide) ?_
      refine sp_callV X (pc := 161) (mc := 0) (ms := 0) (b := (B 0)) (c := 13) (r := some (B 0)) (As := [.int 0, .int 99, .int 111, .int 110]) (rest := []) (c_Mo_isLike l G _ hVm) ok_Mo_isLike rfl hVm.r.o (by decide) rfl lk_Mo_132 rfl rfl (Nat.zero_le _) (Nat.le_of_ble_eq_true rfl) (Nat.le_of_ble_eq_true rfl) (Nat.zero_le _) (Nat.zero_le _) dX12_isBad_161 (sp_kI fun v161 m161 hp161 => ?_)
      obtain ⟨hp161, hp161m⟩ := hp161; replace hp161m := (hp161m).symm; subst hp161m
      refine sp_if_ne X (pc := 164) (tgt := 209) dX12_isBad_164 (by decide) (fun hb164 => ?_) (fun hb164 => ?_)
      · refine sp_iconst X (pc := 209) (v := 1) dX12_isBad_209 (by decide) ?_
        refine sp_goto X (pc := 210) (tgt := 214) dX12_isBad_210 (by decide) ?_
        first
          | exact cut214 0 _ h8 hno hst (sp_bo.f (fun z => hs3 z.1))
          | exact cut214 1 _ h8 hno hst (sp_bo.t ⟨hs3, Or.inl (hp161.ne hb164)⟩)
          | exact cut214 1 _ h8 hno hst (sp_bo.t ⟨hs3, Or.inr (Or.inl (hp175.ne hb178))⟩)
          | exact cut214 1 _ h8 hno hst (sp_bo.t ⟨hs3, Or.inr (Or.inr (Or.inl (hp189.ne hb192)))⟩)
          | exact cut214 1 _ h8 hno hst (sp_bo.t ⟨hs3, Or.inr (Or.inr (Or.inr (hp203.ne hb206)))⟩)
          | exact cut214 0 _ h8 hno hst (sp_bo.f (by
              rintro ⟨-, z | z | z | z⟩
              · exact hp161.eq hb164 z
              · exact hp175.eq hb178 z
              · exact hp189.eq hb192 z
              · exact hp203.eq hb206 z))
      · refine sp_aload_n X (pc := 167) (r := some (B 0)) dX12_isBad_167 rfl rfl ?_
        refine sp_iconst X (pc := 168) (v := 0) dX12_isBad_168 (by decide) ?_
        refine sp_bipush X (pc := 169) (v := 112) dX12_isBad_169 (by decide) ?_
        refine sp_bipush X (pc := 171) (v := 114) dX12_isBad_171 (by decide) ?_
        refine sp_bipush X (pc := 173) (v := 110) dX12_isBad_173 (by decide) ?_
        refine sp_callV X (pc := 175) (mc := 0) (ms := 0) (b := (B 0)) (c := 13) (r := some (B 0)) (As := [.int 0, .int 112, .int 114, .int 110]) (rest := []) (c_Mo_isLike l G _ hVm) ok_Mo_isLike rfl hVm.r.o (by decide) rfl lk_Mo_132 rfl rfl (Nat.zero_le _) (Nat.le_of_ble_eq_true rfl) (Nat.le_of_ble_eq_true rfl) (Nat.zero_le _) (Nat.zero_le _) dX12_isBad_175 (sp_kI fun v175 m175 hp175 => ?_)
        obtain ⟨hp175, hp175m⟩ := hp175; replace hp175m := (hp175m).symm; subst hp175m
        refine sp_if_ne X (pc := 178) (tgt := 209) dX12_isBad_178 (by decide) (fun hb178 => ?_) (fun hb178 => ?_)
        · refine sp_iconst X (pc := 209) (v := 1) dX12_isBad_209 (by decide) ?_
          refine sp_goto X (pc := 210) (tgt := 214) dX12_isBad_210 (by decide) ?_
          first
            | exact cut214 0 _ h8 hno hst (sp_bo.f (fun z => hs3 z.1))
            | exact cut214 1 _ h8 hno hst (sp_bo.t ⟨hs3, Or.inl (hp161.ne hb164)⟩)
            | exact cut214 1 _ h8 hno hst (sp_bo.t ⟨hs3, Or.inr (Or.inl (hp175.ne hb178))⟩)
            | exact cut214 1 _ h8 hno hst (sp_bo.t ⟨hs3, Or.inr (Or.inr (Or.inl (hp189.ne hb192)))⟩)
            | exact cut214 1 _ h8 hno hst (sp_bo.t ⟨hs3, Or.inr (Or.inr (Or.inr (hp203.ne hb206)))⟩)
            | exact cut214 0 _ h8 hno hst (sp_bo.f (by
                rintro ⟨-, z | z | z | z⟩
                · exact hp161.eq hb164 z
                · exact hp175.eq hb178 z
                · exact hp189.eq hb192 z
                · exact hp203.eq hb206 z))
        · refine sp_aload_n X (pc := 181) (r := some (B 0)) dX12_isBad_181 rfl rfl ?_
          refine sp_iconst X (pc := 182) (v := 0) dX12_isBad_182 (by decide) ?_
          refine sp_bipush X (pc := 183) (v := 97) dX12_isBad_183 (by decide) ?_
          refine sp_bipush X (pc := 185) (v := 117) dX12_isBad_185 (by decide) ?_
          refine sp_bipush X (pc := 187) (v := 120) dX12_isBad_187 (by decide) ?_
          refine sp_callV X (pc := 189) (mc := 0) (ms := 0) (b := (B 0)) (c := 13) (r := some (B 0)) (As := [.int 0, .int 97, .int 117, .int 120]) (rest := []) (c_Mo_isLike l G _ hVm) ok_Mo_isLike rfl hVm.r.o (by decide) rfl lk_Mo_132 rfl rfl (Nat.zero_le _) (Nat.le_of_ble_eq_true rfl) (Nat.le_of_ble_eq_true rfl) (Nat.zero_le _) (Nat.zero_le _) dX12_isBad_189 (sp_kI fun v189 m189 hp189 => ?_)
          obtain ⟨hp189, hp189m⟩ := hp189; replace hp189m := (hp189m).symm; subst hp189m
          refine sp_if_ne X (pc := 192) (tgt := 209) dX12_isBad_192 (by decide) (fun hb192 => ?_) (fun hb192 => ?_)
          · refine sp_iconst X (pc := 209) (v := 1) dX12_isBad_209 (by decide) ?_
            refine sp_goto X (pc := 210) (tgt := 214) dX12_isBad_210 (by decide) ?_
            first
              | exact cut214 0 _ h8 hno hst (sp_bo.f (fun z => hs3 z.1))
              | exact cut214 1 _ h8 hno hst (sp_bo.t ⟨hs3, Or.inl (hp161.ne hb164)⟩)
              | exact cut214 1 _ h8 hno hst (sp_bo.t ⟨hs3, Or.inr (Or.inl (hp175.ne hb178))⟩)
              | exact cut214 1 _ h8 hno hst (sp_bo.t ⟨hs3, Or.inr (Or.inr (Or.inl (hp189.ne hb192)))⟩)
              | exact cut214 1 _ h8 hno hst (sp_bo.t ⟨hs3, Or.inr (Or.inr (Or.inr (hp203.ne hb206)))⟩)
              | exact cut214 0 _ h8 hno hst (sp_bo.f (by
                  rintro ⟨-, z | z | z | z⟩
                  · exact hp161.eq hb164 z
                  · exact hp175.eq hb178 z
                  · exact hp189.eq hb192 z
                  · exact hp203.eq hb206 z))
          · refine sp_aload_n X (pc := 195) (r := some (B 0)) dX12_isBad_195 rfl rfl ?_
            refine sp_iconst X (pc := 196) (v := 0) dX12_isBad_196 (by decide) ?_
            refine sp_bipush X (pc := 197) (v := 110) dX12_isBad_197 (by decide) ?_
            refine sp_bipush X (pc := 199) (v := 117) dX12_isBad_199 (by decide) ?_
            refine sp_bipush X (pc := 201) (v := 108) dX12_isBad_201 (by decide) ?_
            refine sp_callV X (pc := 203) (mc := 0) (ms := 0) (b := (B 0)) (c := 13) (r := some (B 0)) (As := [.int 0, .int 110, .int 117, .int 108]) (rest := []) (c_Mo_isLike l G _ hVm) ok_Mo_isLike rfl hVm.r.o (by decide) rfl lk_Mo_132 rfl rfl (Nat.zero_le _) (Nat.le_of_ble_eq_true rfl) (Nat.le_of_ble_eq_true rfl) (Nat.zero_le _) (Nat.zero_le _) dX12_isBad_203 (sp_kI fun v203 m203 hp203 => ?_)
            obtain ⟨hp203, hp203m⟩ := hp203; replace hp203m := (hp203m).symm; subst hp203m
            refine sp_if_eq X (pc := 206) (tgt := 213) dX12_isBad_206 (by decide) (fun hb206 => ?_) (fun hb206 => ?_)
            · refine sp_iconst X (pc := 213) (v := 0) dX12_isBad_213 (by decide) ?_
              first
                | exact cut214 0 _ h8 hno hst (sp_bo.f (fun z => hs3 z.1))
                | exact cut214 1 _ h8 hno hst (sp_bo.t ⟨hs3, Or.inl (hp161.ne hb164)⟩)
                | exact cut214 1 _ h8 hno hst (sp_bo.t ⟨hs3, Or.inr (Or.inl (hp175.ne hb178))⟩)
                | exact cut214 1 _ h8 hno hst (sp_bo.t ⟨hs3, Or.inr (Or.inr (Or.inl (hp189.ne hb192)))⟩)
                | exact cut214 1 _ h8 hno hst (sp_bo.t ⟨hs3, Or.inr (Or.inr (Or.inr (hp203.ne hb206)))⟩)
                | exact cut214 0 _ h8 hno hst (sp_bo.f (by
                    rintro ⟨-, z | z | z | z⟩
                    · exact hp161.eq hb164 z
                    · exact hp175.eq hb178 z
                    · exact hp189.eq hb192 z
                    · exact hp203.eq hb206 z))
            · refine sp_iconst X (pc := 209) (v := 1) dX12_isBad_209 (by decide) ?_
              refine sp_goto X (pc := 210) (tgt := 214) dX12_isBad_210 (by decide) ?_
              first
                | exact cut214 0 _ h8 hno hst (sp_bo.f (fun z => hs3 z.1))
                | exact cut214 1 _ h8 hno hst (sp_bo.t ⟨hs3, Or.inl (hp161.ne hb164)⟩)
                | exact cut214 1 _ h8 hno hst (sp_bo.t ⟨hs3, Or.inr (Or.inl (hp175.ne hb178))⟩)
                | exact cut214 1 _ h8 hno hst (sp_bo.t ⟨hs3, Or.inr (Or.inr (Or.inl (hp189.ne hb192)))⟩)
                | exact cut214 1 _ h8 hno hst (sp_bo.t ⟨hs3, Or.inr (Or.inr (Or.inr (hp203.ne hb206)))⟩)
                | exact cut214 0 _ h8 hno hst (sp_bo.f (by
                    rintro ⟨-, z | z | z | z⟩
                    · exact hp161.eq hb164 z
                    · exact hp175.eq hb178 z
                    · exact hp189.eq hb192 z
                    · exact hp203.eq hb206 z))
  have cut98 : ∀ (u : Int32), (∀ i, i < ws → ¬ (m.aI (B 34) i < 32 ∨ m.aI (B 34) i = 127) ∧ (¬ sp_hr R 8 = 0 → ¬ pu_mk (m.aI (B 34) i))) → w 0 0 m 98 [(0, false, va_rf (some (B 0)))] [] := by
    intro u hall
    refine sp_aload_n X (pc := 98) (r := some (B 0)) dX12_isBad_98 rfl rfl ?_
    refine sp_bipush X (pc := 99) (v := 8) dX12_isBad_99 (by decide) ?_
    refine sp_callV X (pc := 101) (mc := 0) (ms := 0) (b := (B 0)) (c := 13) (r := some (B 0)) (As := [.int 8]) (rest := []) (c_Mo_hasRule l G _ hVm) ok_Mo_hasRule rfl hVm.r.o (by decide) rfl lk_Mo_118 rfl rfl (Nat.zero_le _) (Nat.le_of_ble_eq_true rfl) (Nat.le_of_ble_eq_true rfl) (Nat.zero_le _) (Nat.zero_le _) dX12_isBad_101 (sp_kI fun v101 m101 hp101 => ?_)
    obtain ⟨hp101v, hp101⟩ := hp101; replace hp101 := (hp101).symm; subst hp101; replace hp101v := (hp101v).symm; subst hp101v
    refine sp_if_ne X (pc := 104) (tgt := 109) dX12_isBad_104 (by decide) (fun hb104 => ?_) (fun hb104 => ?_)
    · refine sp_aload_n X (pc := 109) (r := some (B 0)) dX12_isBad_109 rfl rfl ?_
      refine sp_getfield X (pc := 110) (c := 13) (i := 34) (t := 2) (a := (B 0)) (v := va_rf (some (B 34))) rfl hVm.r.o (by decide) rfl (congrArg va_rf hVm.f34) fl_Mo_86 dX12_isBad_110 ?_
      refine sp_aload_n X (pc := 113) (r := some (B 0)) dX12_isBad_113 rfl rfl ?_
      refine sp_getfield X (pc := 114) (c := 13) (i := 35) (t := 0) (a := (B 0)) (v := .int (nI ws)) rfl hVm.r.o (by decide) rfl (congrArg Value.int hVm.cw) fl_Mo_107 dX12_isBad_114 ?_
      refine sp_iconst X (pc := 117) (v := 1) dX12_isBad_117 (by decide) ?_
      refine sp_isub X (pc := 118) dX12_isBad_118 ?_
      rw [show ((nI ws) - 1) = (nI (ws - 1)) from sp_sub (c := 1) h1]
      refine sp_iaload X (pc := 119) (a := (B 34)) rfl (Or.inl hVm.y34) (sp_in (ws - 1) hVm.l34 (by omega) (by decide)) dX12_isBad_119 ?_
      rw [show (m.aI (B 34) (nI (ws - 1)).toNatClampNeg) = (m.aI (B 34) (ws - 1)) from (congrArg _ (nI_clamp (n := (ws - 1)) (by omega)))]
      refine sp_istore_n X (pc := 120) (lv' := [(1, false, .int (m.aI (B 34) (ws - 1))), (0, false, va_rf (some (B 0)))]) dX12_isBad_120 rfl (by decide) rfl ?_
      refine sp_iconst X (pc := 121) (v := 0) dX12_isBad_121 (by decide) ?_
      refine sp_istore_n X (pc := 122) (lv' := [(2, false, .int 0), (1, false, .int (m.aI (B 34) (ws - 1))), (0, false, va_rf (some (B 0)))]) dX12_isBad_122 rfl (by decide) rfl ?_
      have loop123 : ∀ (dz : Nat) (s : Nat), s ≤ ws → (∀ i, i < s → ¬ m.aI (B 34) i = 46) → ws - s = dz → w 0 0 m 123 [(0, false, va_rf (some (B 0))), (1, false, .int (m.aI (B 34) (ws - 1))), (2, false, .int (nI s))] [] := by
        intro dz
        induction dz using Nat.strongRecOn with
        | ind dz ih =>
          intro s hs hs2 hdz
          refine sp_iload_n X (pc := 123) (x := nI s) dX12_isBad_123 rfl rfl ?_
          refine sp_aload_n X (pc := 124) (r := some (B 0)) dX12_isBad_124 rfl rfl ?_
          refine sp_getfield X (pc := 125) (c := 13) (i := 35) (t := 0) (a := (B 0)) (v := .int (nI ws)) rfl hVm.r.o (by decide) rfl (congrArg Value.int hVm.cw) fl_Mo_107 dX12_isBad_125 ?_
          refine sp_icmp_ge X (pc := 128) (tgt := 148) dX12_isBad_128 (by decide) (fun hb128 => ?_) (fun hb128 => ?_)
          · have hst : sp_mst m B ws s := ⟨hs, hs2, fun z => by have := sp_nge hb128 (by omega) (by omega); omega⟩
            exact cut148 _ hb104 (fun i hi => ⟨(hall i hi).1, (hall i hi).2 hb104⟩) hst
          · have hsw : s < ws := sp_nlt hb128 (by omega)
            refine sp_aload_n X (pc := 131) (r := some (B 0)) dX12_isBad_131 rfl rfl ?_
            refine sp_getfield X (pc := 132) (c := 13) (i := 34) (t := 2) (a := (B 0)) (v := va_rf (some (B 34))) rfl hVm.r.o (by decide) rfl (congrArg va_rf hVm.f34) fl_Mo_86 dX12_isBad_132 ?_
            refine sp_iload_n X (pc := 135) (x := nI s) dX12_isBad_135 rfl rfl ?_
            refine sp_iaload X (pc := 136) (a := (B 34)) rfl (Or.inl hVm.y34) (sp_in s hVm.l34 (by omega) (by decide)) dX12_isBad_136 ?_
            rw [show (m.aI (B 34) (nI s).toNatClampNeg) = (m.aI (B 34) s) from (congrArg _ (nI_clamp (n := s) (by omega)))]
            refine sp_bipush X (pc := 137) (v := 46) dX12_isBad_137 (by decide) ?_
            refine sp_icmp_eq X (pc := 139) (tgt := 148) dX12_isBad_139 (by decide) (fun hb139 => ?_) (fun hb139 => ?_)
            · have hst : sp_mst m B ws s := ⟨hs, hs2, fun _ => hb139⟩
              exact cut148 _ hb104 (fun i hi => ⟨(hall i hi).1, (hall i hi).2 hb104⟩) hst
            · refine sp_iinc X (pc := 142) (v := (nI (s + 1))) (lv' := [(2, false, .int (nI (s + 1))), (0, false, va_rf (some (B 0))), (1, false, .int (m.aI (B 34) (ws - 1)))]) dX12_isBad_142 rfl ((sp_i1 s)) (by decide) rfl ?_
              refine sp_goto X (pc := 145) (tgt := 123) dX12_isBad_145 (by decide) ?_
              refine sp_pick X [1, 2, 0] (lv' := [(0, false, va_rf (some (B 0))), (1, false, .int (m.aI (B 34) (ws - 1))), (2, false, .int (nI (s + 1)))]) rfl ?_
              exact ih _ (by omega) (s + 1) (by omega) (fun i hi => by
                rcases Nat.lt_or_ge i s with q | q
                · exact hs2 i q
                · obtain rfl : i = s := by omega
                  exact hb139) rfl
      refine sp_pick X [2, 1, 0] (lv' := [(0, false, va_rf (some (B 0))), (1, false, .int (m.aI (B 34) (ws - 1))), (2, false, .int 0)]) rfl ?_
      exact loop123 _ 0 (Nat.zero_le _) (fun i z => absurd z (Nat.not_lt_zero _)) rfl
    · refine sp_iconst X (pc := 107) (v := 0) dX12_isBad_107 (by decide) ?_
      refine sp_ireturn X (pc := 108) dX12_isBad_108 rfl ⟨_, rfl, ?_⟩
      refine ⟨sp_bo.f ?_, rfl⟩
      rintro (⟨j, z1, z2⟩ | ⟨z, -⟩)
      · rw [sp_wu_len] at z1
        rw [sp_wu_get m B z1] at z2
        exact (hall j z1).1 z2
      · exact z hb104
  refine sp_iconst X (pc := 0) (v := 0) dX12_isBad_0 (by decide) ?_
  refine sp_istore_n X (pc := 1) (lv' := [(1, false, .int 0), (0, false, va_rf (some (B 0)))]) dX12_isBad_1 rfl (by decide) rfl ?_
  have loop2 : ∀ (dz : Nat) (j : Nat), j ≤ ws → (∀ i, i < j → ¬ (m.aI (B 34) i < 32 ∨ m.aI (B 34) i = 127) ∧ (¬ sp_hr R 8 = 0 → ¬ pu_mk (m.aI (B 34) i))) → ws - j = dz → w 0 0 m 2 [(0, false, va_rf (some (B 0))), (1, false, .int (nI j))] [] := by
    intro dz
    induction dz using Nat.strongRecOn with
    | ind dz ih =>
      intro j hj hok hdz
      have cut64 : ∀ (u : Int32), j < ws → sp_bo u (pu_mk (m.aI (B 34) j)) → w 0 0 m 64 [(0, false, va_rf (some (B 0))), (1, false, .int (nI j)), (2, false, .int (m.aI (B 34) j))] [.int u] := by
        intro u hjw hu
        refine sp_istore_n X (pc := 64) (lv' := [(3, false, .int u), (0, false, va_rf (some (B 0))), (1, false, .int (nI j)), (2, false, .int (m.aI (B 34) j))]) dX12_isBad_64 rfl (by decide) rfl ?_
        refine sp_iload_n X (pc := 65) (x := (m.aI (B 34) j)) dX12_isBad_65 rfl rfl ?_
        refine sp_bipush X (pc := 66) (v := 32) dX12_isBad_66 (by decide) ?_
        refine sp_icmp_lt X (pc := 68) (tgt := 90) dX12_isBad_68 (by decide) (fun hb68 => ?_) (fun hb68 => ?_)
        · refine sp_iconst X (pc := 90) (v := 1) dX12_isBad_90 (by decide) ?_
          refine sp_ireturn X (pc := 91) dX12_isBad_91 rfl ⟨_, rfl, ?_⟩
          first
            | exact ⟨sp_bo.t (Or.inl ⟨j, by rw [sp_wu_len]; exact hjw, by rw [sp_wu_get m B hjw]; exact Or.inl hb68⟩), rfl⟩
            | exact ⟨sp_bo.t (Or.inl ⟨j, by rw [sp_wu_len]; exact hjw, by rw [sp_wu_get m B hjw]; exact Or.inr hb74⟩), rfl⟩
            | exact ⟨sp_bo.t (Or.inr ⟨hb83, Or.inr (Or.inl ⟨j, by rw [sp_wu_len]; exact hjw, by rw [sp_wu_get m B hjw]; exact hu.ne hb87⟩)⟩), rfl⟩
        · refine sp_iload_n X (pc := 71) (x := (m.aI (B 34) j)) dX12_isBad_71 rfl rfl ?_
          refine sp_bipush X (pc := 72) (v := 127) dX12_isBad_72 (by decide) ?_
          refine sp_icmp_eq X (pc := 74) (tgt := 90) dX12_isBad_74 (by decide) (fun hb74 => ?_) (fun hb74 => ?_)
          · refine sp_iconst X (pc := 90) (v := 1) dX12_isBad_90 (by decide) ?_
            refine sp_ireturn X (pc := 91) dX12_isBad_91 rfl ⟨_, rfl, ?_⟩
            first
              | exact ⟨sp_bo.t (Or.inl ⟨j, by rw [sp_wu_len]; exact hjw, by rw [sp_wu_get m B hjw]; exact Or.inl hb68⟩), rfl⟩
              | exact ⟨sp_bo.t (Or.inl ⟨j, by rw [sp_wu_len]; exact hjw, by rw [sp_wu_get m B hjw]; exact Or.inr hb74⟩), rfl⟩
              | exact ⟨sp_bo.t (Or.inr ⟨hb83, Or.inr (Or.inl ⟨j, by rw [sp_wu_len]; exact hjw, by rw [sp_wu_get m B hjw]; exact hu.ne hb87⟩)⟩), rfl⟩
          · refine sp_aload_n X (pc := 77) (r := some (B 0)) dX12_isBad_77 rfl rfl ?_
            refine sp_bipush X (pc := 78) (v := 8) dX12_isBad_78 (by decide) ?_
            refine sp_callV X (pc := 80) (mc := 0) (ms := 0) (b := (B 0)) (c := 13) (r := some (B 0)) (As := [.int 8]) (rest := []) (c_Mo_hasRule l G _ hVm) ok_Mo_hasRule rfl hVm.r.o (by decide) rfl lk_Mo_118 rfl rfl (Nat.zero_le _) (Nat.le_of_ble_eq_true rfl) (Nat.le_of_ble_eq_true rfl) (Nat.zero_le _) (Nat.zero_le _) dX12_isBad_80 (sp_kI fun v80 m80 hp80 => ?_)
            obtain ⟨hp80v, hp80⟩ := hp80; replace hp80 := (hp80).symm; subst hp80; replace hp80v := (hp80v).symm; subst hp80v
            refine sp_if_eq X (pc := 83) (tgt := 92) dX12_isBad_83 (by decide) (fun hb83 => ?_) (fun hb83 => ?_)
            · refine sp_iinc X (pc := 92) (v := (nI (j + 1))) (lv' := [(1, false, .int (nI (j + 1))), (3, false, .int u), (0, false, va_rf (some (B 0))), (2, false, .int (m.aI (B 34) j))]) dX12_isBad_92 rfl ((sp_i1 j)) (by decide) rfl ?_
              refine sp_goto X (pc := 95) (tgt := 2) dX12_isBad_95 (by decide) ?_
              refine sp_pick X [2, 0] (lv' := [(0, false, va_rf (some (B 0))), (1, false, .int (nI (j + 1)))]) rfl ?_
              exact ih _ (by omega) (j + 1) (by omega) (fun i hi => by
                rcases Nat.lt_or_ge i j with q | q
                · exact hok i q
                · obtain rfl : i = j := by omega
                  refine ⟨fun z => z.elim hb68 hb74, fun z => ?_⟩
                  first | exact absurd hb83 z | exact hu.eq hb87) rfl
            · refine sp_iload_n X (pc := 86) (x := u) dX12_isBad_86 rfl rfl ?_
              refine sp_if_eq X (pc := 87) (tgt := 92) dX12_isBad_87 (by decide) (fun hb87 => ?_) (fun hb87 => ?_)
              · refine sp_iinc X (pc := 92) (v := (nI (j + 1))) (lv' := [(1, false, .int (nI (j + 1))), (3, false, .int u), (0, false, va_rf (some (B 0))), (2, false, .int (m.aI (B 34) j))]) dX12_isBad_92 rfl ((sp_i1 j)) (by decide) rfl ?_
                refine sp_goto X (pc := 95) (tgt := 2) dX12_isBad_95 (by decide) ?_
                refine sp_pick X [2, 0] (lv' := [(0, false, va_rf (some (B 0))), (1, false, .int (nI (j + 1)))]) rfl ?_
                exact ih _ (by omega) (j + 1) (by omega) (fun i hi => by
                  rcases Nat.lt_or_ge i j with q | q
                  · exact hok i q
                  · obtain rfl : i = j := by omega
                    refine ⟨fun z => z.elim hb68 hb74, fun z => ?_⟩
                    first | exact absurd hb83 z | exact hu.eq hb87) rfl
              · refine sp_iconst X (pc := 90) (v := 1) dX12_isBad_90 (by decide) ?_
                refine sp_ireturn X (pc := 91) dX12_isBad_91 rfl ⟨_, rfl, ?_⟩
                first
                  | exact ⟨sp_bo.t (Or.inl ⟨j, by rw [sp_wu_len]; exact hjw, by rw [sp_wu_get m B hjw]; exact Or.inl hb68⟩), rfl⟩
                  | exact ⟨sp_bo.t (Or.inl ⟨j, by rw [sp_wu_len]; exact hjw, by rw [sp_wu_get m B hjw]; exact Or.inr hb74⟩), rfl⟩
                  | exact ⟨sp_bo.t (Or.inr ⟨hb83, Or.inr (Or.inl ⟨j, by rw [sp_wu_len]; exact hjw, by rw [sp_wu_get m B hjw]; exact hu.ne hb87⟩)⟩), rfl⟩
      refine sp_iload_n X (pc := 2) (x := nI j) dX12_isBad_2 rfl rfl ?_
      refine sp_aload_n X (pc := 3) (r := some (B 0)) dX12_isBad_3 rfl rfl ?_
      refine sp_getfield X (pc := 4) (c := 13) (i := 35) (t := 0) (a := (B 0)) (v := .int (nI ws)) rfl hVm.r.o (by decide) rfl (congrArg Value.int hVm.cw) fl_Mo_107 dX12_isBad_4 ?_
      refine sp_icmp_ge X (pc := 7) (tgt := 98) dX12_isBad_7 (by decide) (fun hb7 => ?_) (fun hb7 => ?_)
      · have hjw : ws ≤ j := sp_nge hb7 (by omega) (by omega)
        have hall : (∀ i, i < ws → ¬ (m.aI (B 34) i < 32 ∨ m.aI (B 34) i = 127) ∧ (¬ sp_hr R 8 = 0 → ¬ pu_mk (m.aI (B 34) i))) := fun i hi => hok i (by omega)
        refine sp_pick X [0] (lv' := [(0, false, va_rf (some (B 0)))]) rfl ?_
        exact cut98 0 hall
      · have hjw : j < ws := sp_nlt hb7 (by omega)
        refine sp_aload_n X (pc := 10) (r := some (B 0)) dX12_isBad_10 rfl rfl ?_
        refine sp_getfield X (pc := 11) (c := 13) (i := 34) (t := 2) (a := (B 0)) (v := va_rf (some (B 34))) rfl hVm.r.o (by decide) rfl (congrArg va_rf hVm.f34) fl_Mo_86 dX12_isBad_11 ?_
        refine sp_iload_n X (pc := 14) (x := nI j) dX12_isBad_14 rfl rfl ?_
        refine sp_iaload X (pc := 15) (a := (B 34)) rfl (Or.inl hVm.y34) (sp_in j hVm.l34 (by omega) (by decide)) dX12_isBad_15 ?_
        rw [show (m.aI (B 34) (nI j).toNatClampNeg) = (m.aI (B 34) j) from (congrArg _ (nI_clamp (n := j) (by omega)))]
        refine sp_istore_n X (pc := 16) (lv' := [(2, false, .int (m.aI (B 34) j)), (0, false, va_rf (some (B 0))), (1, false, .int (nI j))]) dX12_isBad_16 rfl (by decide) rfl ?_
        refine sp_iload_n X (pc := 17) (x := (m.aI (B 34) j)) dX12_isBad_17 rfl rfl ?_
        refine sp_bipush X (pc := 18) (v := 58) dX12_isBad_18 (by decide) ?_
        refine sp_icmp_eq X (pc := 20) (tgt := 59) dX12_isBad_20 (by decide) (fun hb20 => ?_) (fun hb20 => ?_)
        · refine sp_iconst X (pc := 59) (v := 1) dX12_isBad_59 (by decide) ?_
          refine sp_goto X (pc := 60) (tgt := 64) dX12_isBad_60 (by decide) ?_
          refine sp_pick X [1, 2, 0] (lv' := [(0, false, va_rf (some (B 0))), (1, false, .int (nI j)), (2, false, .int (m.aI (B 34) j))]) rfl ?_
          first
            | exact cut64 1 hjw (sp_bo.t (Or.inl hb20))
            | exact cut64 1 hjw (sp_bo.t (Or.inr (Or.inl hb26)))
            | exact cut64 1 hjw (sp_bo.t (Or.inr (Or.inr (Or.inl hb32))))
            | exact cut64 1 hjw (sp_bo.t (Or.inr (Or.inr (Or.inr (Or.inl hb38)))))
            | exact cut64 1 hjw (sp_bo.t (Or.inr (Or.inr (Or.inr (Or.inr (Or.inl hb44))))))
            | exact cut64 1 hjw (sp_bo.t (Or.inr (Or.inr (Or.inr (Or.inr (Or.inr (Or.inl hb50)))))))
            | exact cut64 1 hjw (sp_bo.t (Or.inr (Or.inr (Or.inr (Or.inr (Or.inr (Or.inr hb56)))))))
            | exact cut64 0 hjw (sp_bo.f (by
                rintro (z | z | z | z | z | z | z)
                · exact hb20 z
                · exact hb26 z
                · exact hb32 z
                · exact hb38 z
                · exact hb44 z
                · exact hb50 z
                · exact hb56 z))
        · refine sp_iload_n X (pc := 23) (x := (m.aI (B 34) j)) dX12_isBad_23 rfl rfl ?_
          refine sp_bipush X (pc := 24) (v := 42) dX12_isBad_24 (by decide) ?_
          refine sp_icmp_eq X (pc := 26) (tgt := 59) dX12_isBad_26 (by decide) (fun hb26 => ?_) (fun hb26 => ?_)
          · refine sp_iconst X (pc := 59) (v := 1) dX12_isBad_59 (by decide) ?_
            refine sp_goto X (pc := 60) (tgt := 64) dX12_isBad_60 (by decide) ?_
            refine sp_pick X [1, 2, 0] (lv' := [(0, false, va_rf (some (B 0))), (1, false, .int (nI j)), (2, false, .int (m.aI (B 34) j))]) rfl ?_
            first
              | exact cut64 1 hjw (sp_bo.t (Or.inl hb20))
              | exact cut64 1 hjw (sp_bo.t (Or.inr (Or.inl hb26)))
              | exact cut64 1 hjw (sp_bo.t (Or.inr (Or.inr (Or.inl hb32))))
              | exact cut64 1 hjw (sp_bo.t (Or.inr (Or.inr (Or.inr (Or.inl hb38)))))
              | exact cut64 1 hjw (sp_bo.t (Or.inr (Or.inr (Or.inr (Or.inr (Or.inl hb44))))))
              | exact cut64 1 hjw (sp_bo.t (Or.inr (Or.inr (Or.inr (Or.inr (Or.inr (Or.inl hb50)))))))
              | exact cut64 1 hjw (sp_bo.t (Or.inr (Or.inr (Or.inr (Or.inr (Or.inr (Or.inr hb56)))))))
              | exact cut64 0 hjw (sp_bo.f (by
                  rintro (z | z | z | z | z | z | z)
                  · exact hb20 z
                  · exact hb26 z
                  · exact hb32 z
                  · exact hb38 z
                  · exact hb44 z
                  · exact hb50 z
                  · exact hb56 z))
          · refine sp_iload_n X (pc := 29) (x := (m.aI (B 34) j)) dX12_isBad_29 rfl rfl ?_
            refine sp_bipush X (pc := 30) (v := 63) dX12_isBad_30 (by decide) ?_
            refine sp_icmp_eq X (pc := 32) (tgt := 59) dX12_isBad_32 (by decide) (fun hb32 => ?_) (fun hb32 => ?_)
            · refine sp_iconst X (pc := 59) (v := 1) dX12_isBad_59 (by decide) ?_
              refine sp_goto X (pc := 60) (tgt := 64) dX12_isBad_60 (by decide) ?_
              refine sp_pick X [1, 2, 0] (lv' := [(0, false, va_rf (some (B 0))), (1, false, .int (nI j)), (2, false, .int (m.aI (B 34) j))]) rfl ?_
              first
                | exact cut64 1 hjw (sp_bo.t (Or.inl hb20))
                | exact cut64 1 hjw (sp_bo.t (Or.inr (Or.inl hb26)))
                | exact cut64 1 hjw (sp_bo.t (Or.inr (Or.inr (Or.inl hb32))))
                | exact cut64 1 hjw (sp_bo.t (Or.inr (Or.inr (Or.inr (Or.inl hb38)))))
                | exact cut64 1 hjw (sp_bo.t (Or.inr (Or.inr (Or.inr (Or.inr (Or.inl hb44))))))
                | exact cut64 1 hjw (sp_bo.t (Or.inr (Or.inr (Or.inr (Or.inr (Or.inr (Or.inl hb50)))))))
                | exact cut64 1 hjw (sp_bo.t (Or.inr (Or.inr (Or.inr (Or.inr (Or.inr (Or.inr hb56)))))))
                | exact cut64 0 hjw (sp_bo.f (by
                    rintro (z | z | z | z | z | z | z)
                    · exact hb20 z
                    · exact hb26 z
                    · exact hb32 z
                    · exact hb38 z
                    · exact hb44 z
                    · exact hb50 z
                    · exact hb56 z))
            · refine sp_iload_n X (pc := 35) (x := (m.aI (B 34) j)) dX12_isBad_35 rfl rfl ?_
              refine sp_bipush X (pc := 36) (v := 34) dX12_isBad_36 (by decide) ?_
              refine sp_icmp_eq X (pc := 38) (tgt := 59) dX12_isBad_38 (by decide) (fun hb38 => ?_) (fun hb38 => ?_)
              · refine sp_iconst X (pc := 59) (v := 1) dX12_isBad_59 (by decide) ?_
                refine sp_goto X (pc := 60) (tgt := 64) dX12_isBad_60 (by decide) ?_
                refine sp_pick X [1, 2, 0] (lv' := [(0, false, va_rf (some (B 0))), (1, false, .int (nI j)), (2, false, .int (m.aI (B 34) j))]) rfl ?_
                first
                  | exact cut64 1 hjw (sp_bo.t (Or.inl hb20))
                  | exact cut64 1 hjw (sp_bo.t (Or.inr (Or.inl hb26)))
                  | exact cut64 1 hjw (sp_bo.t (Or.inr (Or.inr (Or.inl hb32))))
                  | exact cut64 1 hjw (sp_bo.t (Or.inr (Or.inr (Or.inr (Or.inl hb38)))))
                  | exact cut64 1 hjw (sp_bo.t (Or.inr (Or.inr (Or.inr (Or.inr (Or.inl hb44))))))
                  | exact cut64 1 hjw (sp_bo.t (Or.inr (Or.inr (Or.inr (Or.inr (Or.inr (Or.inl hb50)))))))
                  | exact cut64 1 hjw (sp_bo.t (Or.inr (Or.inr (Or.inr (Or.inr (Or.inr (Or.inr hb56)))))))
                  | exact cut64 0 hjw (sp_bo.f (by
                      rintro (z | z | z | z | z | z | z)
                      · exact hb20 z
                      · exact hb26 z
                      · exact hb32 z
                      · exact hb38 z
                      · exact hb44 z
                      · exact hb50 z
                      · exact hb56 z))
              · refine sp_iload_n X (pc := 41) (x := (m.aI (B 34) j)) dX12_isBad_41 rfl rfl ?_
                refine sp_bipush X (pc := 42) (v := 60) dX12_isBad_42 (by decide) ?_
                refine sp_icmp_eq X (pc := 44) (tgt := 59) dX12_isBad_44 (by decide) (fun hb44 => ?_) (fun hb44 => ?_)
                · refine sp_iconst X (pc := 59) (v := 1) dX12_isBad_59 (by decide) ?_
                  refine sp_goto X (pc := 60) (tgt := 64) dX12_isBad_60 (by decide) ?_
                  refine sp_pick X [1, 2, 0] (lv' := [(0, false, va_rf (some (B 0))), (1, false, .int (nI j)), (2, false, .int (m.aI (B 34) j))]) rfl ?_
                  first
                    | exact cut64 1 hjw (sp_bo.t (Or.inl hb20))
                    | exact cut64 1 hjw (sp_bo.t (Or.inr (Or.inl hb26)))
                    | exact cut64 1 hjw (sp_bo.t (Or.inr (Or.inr (Or.inl hb32))))
                    | exact cut64 1 hjw (sp_bo.t (Or.inr (Or.inr (Or.inr (Or.inl hb38)))))
                    | exact cut64 1 hjw (sp_bo.t (Or.inr (Or.inr (Or.inr (Or.inr (Or.inl hb44))))))
                    | exact cut64 1 hjw (sp_bo.t (Or.inr (Or.inr (Or.inr (Or.inr (Or.inr (Or.inl hb50)))))))
                    | exact cut64 1 hjw (sp_bo.t (Or.inr (Or.inr (Or.inr (Or.inr (Or.inr (Or.inr hb56)))))))
                    | exact cut64 0 hjw (sp_bo.f (by
                        rintro (z | z | z | z | z | z | z)
                        · exact hb20 z
                        · exact hb26 z
                        · exact hb32 z
                        · exact hb38 z
                        · exact hb44 z
                        · exact hb50 z
                        · exact hb56 z))
                · refine sp_iload_n X (pc := 47) (x := (m.aI (B 34) j)) dX12_isBad_47 rfl rfl ?_
                  refine sp_bipush X (pc := 48) (v := 62) dX12_isBad_48 (by decide) ?_
                  refine sp_icmp_eq X (pc := 50) (tgt := 59) dX12_isBad_50 (by decide) (fun hb50 => ?_) (fun hb50 => ?_)
                  · refine sp_iconst X (pc := 59) (v := 1) dX12_isBad_59 (by decide) ?_
                    refine sp_goto X (pc := 60) (tgt := 64) dX12_isBad_60 (by decide) ?_
                    refine sp_pick X [1, 2, 0] (lv' := [(0, false, va_rf (some (B 0))), (1, false, .int (nI j)), (2, false, .int (m.aI (B 34) j))]) rfl ?_
                    first
                      | exact cut64 1 hjw (sp_bo.t (Or.inl hb20))
                      | exact cut64 1 hjw (sp_bo.t (Or.inr (Or.inl hb26)))
                      | exact cut64 1 hjw (sp_bo.t (Or.inr (Or.inr (Or.inl hb32))))
                      | exact cut64 1 hjw (sp_bo.t (Or.inr (Or.inr (Or.inr (Or.inl hb38)))))
                      | exact cut64 1 hjw (sp_bo.t (Or.inr (Or.inr (Or.inr (Or.inr (Or.inl hb44))))))
                      | exact cut64 1 hjw (sp_bo.t (Or.inr (Or.inr (Or.inr (Or.inr (Or.inr (Or.inl hb50)))))))
                      | exact cut64 1 hjw (sp_bo.t (Or.inr (Or.inr (Or.inr (Or.inr (Or.inr (Or.inr hb56)))))))
                      | exact cut64 0 hjw (sp_bo.f (by
                          rintro (z | z | z | z | z | z | z)
                          · exact hb20 z
                          · exact hb26 z
                          · exact hb32 z
                          · exact hb38 z
                          · exact hb44 z
                          · exact hb50 z
                          · exact hb56 z))
                  · refine sp_iload_n X (pc := 53) (x := (m.aI (B 34) j)) dX12_isBad_53 rfl rfl ?_
                    refine sp_bipush X (pc := 54) (v := 124) dX12_isBad_54 (by decide) ?_
                    refine sp_icmp_ne X (pc := 56) (tgt := 63) dX12_isBad_56 (by decide) (fun hb56 => ?_) (fun hb56 => ?_)
                    · refine sp_iconst X (pc := 63) (v := 0) dX12_isBad_63 (by decide) ?_
                      refine sp_pick X [1, 2, 0] (lv' := [(0, false, va_rf (some (B 0))), (1, false, .int (nI j)), (2, false, .int (m.aI (B 34) j))]) rfl ?_
                      first
                        | exact cut64 1 hjw (sp_bo.t (Or.inl hb20))
                        | exact cut64 1 hjw (sp_bo.t (Or.inr (Or.inl hb26)))
                        | exact cut64 1 hjw (sp_bo.t (Or.inr (Or.inr (Or.inl hb32))))
                        | exact cut64 1 hjw (sp_bo.t (Or.inr (Or.inr (Or.inr (Or.inl hb38)))))
                        | exact cut64 1 hjw (sp_bo.t (Or.inr (Or.inr (Or.inr (Or.inr (Or.inl hb44))))))
                        | exact cut64 1 hjw (sp_bo.t (Or.inr (Or.inr (Or.inr (Or.inr (Or.inr (Or.inl hb50)))))))
                        | exact cut64 1 hjw (sp_bo.t (Or.inr (Or.inr (Or.inr (Or.inr (Or.inr (Or.inr hb56)))))))
                        | exact cut64 0 hjw (sp_bo.f (by
                            rintro (z | z | z | z | z | z | z)
                            · exact hb20 z
                            · exact hb26 z
                            · exact hb32 z
                            · exact hb38 z
                            · exact hb44 z
                            · exact hb50 z
                            · exact hb56 z))
                    · refine sp_iconst X (pc := 59) (v := 1) dX12_isBad_59 (by decide) ?_
                      refine sp_goto X (pc := 60) (tgt := 64) dX12_isBad_60 (by decide) ?_
                      refine sp_pick X [1, 2, 0] (lv' := [(0, false, va_rf (some (B 0))), (1, false, .int (nI j)), (2, false, .int (m.aI (B 34) j))]) rfl ?_
                      first
                        | exact cut64 1 hjw (sp_bo.t (Or.inl hb20))
                        | exact cut64 1 hjw (sp_bo.t (Or.inr (Or.inl hb26)))
                        | exact cut64 1 hjw (sp_bo.t (Or.inr (Or.inr (Or.inl hb32))))
                        | exact cut64 1 hjw (sp_bo.t (Or.inr (Or.inr (Or.inr (Or.inl hb38)))))
                        | exact cut64 1 hjw (sp_bo.t (Or.inr (Or.inr (Or.inr (Or.inr (Or.inl hb44))))))
                        | exact cut64 1 hjw (sp_bo.t (Or.inr (Or.inr (Or.inr (Or.inr (Or.inr (Or.inl hb50)))))))
                        | exact cut64 1 hjw (sp_bo.t (Or.inr (Or.inr (Or.inr (Or.inr (Or.inr (Or.inr hb56)))))))
                        | exact cut64 0 hjw (sp_bo.f (by
                            rintro (z | z | z | z | z | z | z)
                            · exact hb20 z
                            · exact hb26 z
                            · exact hb32 z
                            · exact hb38 z
                            · exact hb44 z
                            · exact hb50 z
                            · exact hb56 z))
  refine sp_pick X [1, 0] (lv' := [(0, false, va_rf (some (B 0))), (1, false, .int 0)]) rfl ?_
  exact loop2 _ 0 (Nat.zero_le _) (fun i z => absurd z (Nat.not_lt_zero _)) rfl

/-- the model's tree: n nodes, of which L have what they have -/
def sp_mN (m : sp_M) (B : Nat → Nat) (n L : Nat) (T : pu_N) : Prop := (∀ j, j < n → m.aI (B 4) j = T.k j ∧ m.aI (B 5) j = T.s j ∧ m.aI (B 6) j = T.d j ∧ m.aI (B 7) j = T.g j ∧ m.aI (B 8) j = nI (T.o j) ∧ m.aI (B 10) j = nI (T.w j).length ∧ ∀ i, i < (T.w j).length → m.aI (B 11) (16 * j + i) = (T.w j).getD i 0) ∧ (∀ j, n ≤ j → m.aI (B 5) j = 0 ∧ m.aI (B 6) j = 0 ∧ m.aI (B 7) j = 0) ∧ (∀ j, j < L → ¬ T.k j = 0 → m.aI (B 9) j = nI (T.h j))
theorem sp_mN.rk {B : Nat → Nat} {l : List Nat} {m m' : sp_M} {n L : Nat} {T : pu_N} (h : sp_mN m B n L T) (hr : sp_rk B l m m') (hl : ∀ k, k ∈ [4, 5, 6, 7, 8, 9, 10, 11] → k ∉ l) : sp_mN m' B n L T := by
  unfold sp_mN
  rw [hr 4 (by decide) (hl 4 (by decide)), hr 5 (by decide) (hl 5 (by decide)), hr 6 (by decide) (hl 6 (by decide)), hr 7 (by decide) (hl 7 (by decide)), hr 8 (by decide) (hl 8 (by decide)), hr 9 (by decide) (hl 9 (by decide)), hr 10 (by decide) (hl 10 (by decide)), hr 11 (by decide) (hl 11 (by decide))]
  exact h
theorem sp_named1 {m : sp_M} {B : Nat → Nat} {w : Nat} {u : List Int32} : (u.length = w ∧ ∀ i, i < w → (u.getD i 0 = m.aI (B 34) i ∨ ((1 : Int32) = 0 ∧ sp_sm (u.getD i 0) = sp_sm (m.aI (B 34) i)))) ↔ u = sp_wu m B w := by
  constructor
  · rintro ⟨h1, h2⟩
    refine (sp_wu_eq h1 (fun i hi => ?_)).symm
    rcases h2 i hi with z | z
    · exact z.symm
    · exact absurd z.1 (by decide)
  · intro h
    have hl : u.length = w := by rw [h, sp_wu_len]
    exact ⟨hl, fun i hi => Or.inl (by rw [h]; exact sp_wu_get m B hi)⟩
theorem sp_named0 {m : sp_M} {B : Nat → Nat} {w : Nat} {u : List Int32} : (u.length = w ∧ ∀ i, i < w → (u.getD i 0 = m.aI (B 34) i ∨ ((0 : Int32) = 0 ∧ sp_sm (u.getD i 0) = sp_sm (m.aI (B 34) i)))) ↔ u.map sp_sm = (sp_wu m B w).map sp_sm := by
  rw [pu_map_sm, sp_wu_len]
  constructor
  · rintro ⟨h1, h2⟩
    refine ⟨h1, fun i hi => ?_⟩
    rw [sp_wu_get m B (by omega)]
    rcases h2 i (by omega) with z | z
    · rw [z]
    · exact z.2
  · rintro ⟨h1, h2⟩
    refine ⟨h1, fun i hi => Or.inr ⟨rfl, ?_⟩⟩
    have := h2 i (by omega)
    rw [sp_wu_get m B hi] at this
    exact this
theorem pu_W.n0 {n b t f : Nat} {T : pu_N} {u : List Int32} (hW : pu_W n b t T) (hu : 1 ≤ u.length) : ¬ pu_sa T n f u 0 ∧ ¬ pu_lk T n f u 0 := by
  have h0 := hW.2.2.2.2.1
  constructor
  · rintro ⟨-, -, -, z⟩
    rw [h0] at z
    rw [← z] at hu
    exact absurd hu (by decide)
  · rintro ⟨-, -, -, z⟩
    rw [h0] at z
    have := congrArg List.length z
    rw [List.length_map, List.length_map] at this
    rw [← this] at hu
    exact absurd hu (by decide)
set_option maxRecDepth 20000 in
theorem c_Mo_isNamed (l : Launch) (G : sp_G) (m : sp_M) {B : Nat → Nat} {m0 : sp_M} {D : Nat → Int32} {R : Int32} {l0 l1 : Int64} {d n b p t e L ws : Nat} {vq vm vl : Int32} {vs : Int64} {vA vE : Nat → Int64} (hVm : sp_V B m0 m D R l0 l1 d n b p t e L ws vq vm vl vs vA vE) {j : Nat} {x : Int32} {u9 : List Int32} (hj : j < n) (hl9 : m.aI (B 10) j = nI u9.length) (h16 : u9.length ≤ 16) (hc9 : ∀ i, i < u9.length → m.aI (B 11) (16 * j + i) = u9.getD i 0) : sp_C l G M_Mo_isNamed 0 0 [.ref (B 0), .int (nI j), .int x] m (sp_oI fun v m' => sp_bo v (u9.length = ws ∧ ∀ i, i < ws → (u9.getD i 0 = m.aI (B 34) i ∨ (x = 0 ∧ sp_sm (u9.getD i 0) = sp_sm (m.aI (B 34) i)))) ∧ m' = m) := by
  refine sp_enter (lv0 := [(0, false, va_rf (some (B 0))), (1, false, .int (nI j)), (2, false, .int x)]) "SafePathsModel" false rfl (by decide) (fun h => by cases h) (Nat.le_of_ble_eq_true rfl) rfl ?_
  intro w X
  have bd := hVm.hd
  have bn := hVm.hn
  have bb := hVm.hb
  have bp := hVm.hp
  have bt := hVm.ht
  have be := hVm.he
  have bw := hVm.hw
  have bL := hVm.hL
  refine sp_aload_n X (pc := 0) (r := some (B 0)) dX12_isNamed_0 rfl rfl ?_
  refine sp_getfield X (pc := 1) (c := 13) (i := 10) (t := 2) (a := (B 0)) (v := va_rf (some (B 10))) rfl hVm.r.o (by decide) rfl (congrArg va_rf hVm.f10) fl_Mo_32 dX12_isNamed_1 ?_
  refine sp_iload_n X (pc := 4) (x := nI j) dX12_isNamed_4 rfl rfl ?_
  refine sp_iaload X (pc := 5) (a := (B 10)) rfl (Or.inl hVm.y10) (sp_in j hVm.l10 (by omega) (by decide)) dX12_isNamed_5 ?_
  rw [show (m.aI (B 10) (nI j).toNatClampNeg) = (m.aI (B 10) j) from (congrArg _ (nI_clamp (n := j) (by omega)))]
  rw [show (m.aI (B 10) j) = (nI u9.length) from hl9]
  refine sp_aload_n X (pc := 6) (r := some (B 0)) dX12_isNamed_6 rfl rfl ?_
  refine sp_getfield X (pc := 7) (c := 13) (i := 35) (t := 0) (a := (B 0)) (v := .int (nI ws)) rfl hVm.r.o (by decide) rfl (congrArg Value.int hVm.cw) fl_Mo_107 dX12_isNamed_7 ?_
  refine sp_icmp_ne X (pc := 10) (tgt := 17) dX12_isNamed_10 (by decide) (fun hb10 => ?_) (fun hb10 => ?_)
  · have hqw : ¬ u9.length = ws := fun z => hb10 (by rw [z])
    refine sp_iconst X (pc := 17) (v := 0) dX12_isNamed_17 (by decide) ?_
    refine sp_istore_n X (pc := 18) (lv' := [(3, false, .int 0), (0, false, va_rf (some (B 0))), (1, false, .int (nI j)), (2, false, .int x)]) dX12_isNamed_18 rfl (by decide) rfl ?_
    refine sp_iconst X (pc := 19) (v := 0) dX12_isNamed_19 (by decide) ?_
    refine sp_istore X (pc := 20) (lv' := [(4, false, .int 0), (3, false, .int 0), (0, false, va_rf (some (B 0))), (1, false, .int (nI j)), (2, false, .int x)]) dX12_isNamed_20  (by decide) rfl ?_
    have loop22 : ∀ (dz : Nat) (fl : Int32) (k : Nat), k ≤ ws → sp_bo fl (u9.length = ws ∧ ∀ i, i < k → (u9.getD i 0 = m.aI (B 34) i ∨ (x = 0 ∧ sp_sm (u9.getD i 0) = sp_sm (m.aI (B 34) i)))) → ws - k = dz → w 0 0 m 22 [(0, false, va_rf (some (B 0))), (1, false, .int (nI j)), (2, false, .int x), (3, false, .int fl), (4, false, .int (nI k))] [] := by
      intro dz
      induction dz using Nat.strongRecOn with
      | ind dz ih =>
        intro fl k hk hfl hdz
        refine sp_iload_n X (pc := 22) (x := fl) dX12_isNamed_22 rfl rfl ?_
        refine sp_if_eq X (pc := 23) (tgt := 95) dX12_isNamed_23 (by decide) (fun hb23 => ?_) (fun hb23 => ?_)
        · have hfl0 := hfl.eq hb23
          refine sp_iload_n X (pc := 95) (x := fl) dX12_isNamed_95 rfl rfl ?_
          refine sp_ireturn X (pc := 96) dX12_isNamed_96 hfl.nar ⟨_, rfl, ?_⟩
          first
            | exact ⟨hfl.iff ⟨fun z => ⟨z.1, fun i hi => z.2 i (by omega)⟩, fun z => ⟨z.1, fun i hi => z.2 i (by omega)⟩⟩, rfl⟩
            | exact ⟨hfl.iff ⟨fun z => absurd z hfl0, fun z => ⟨z.1, fun i hi => z.2 i (by omega)⟩⟩, rfl⟩
        · have hfl0 := hfl.ne hb23
          refine sp_iload X (pc := 26) (x := nI k) dX12_isNamed_26 rfl ?_
          refine sp_aload_n X (pc := 28) (r := some (B 0)) dX12_isNamed_28 rfl rfl ?_
          refine sp_getfield X (pc := 29) (c := 13) (i := 35) (t := 0) (a := (B 0)) (v := .int (nI ws)) rfl hVm.r.o (by decide) rfl (congrArg Value.int hVm.cw) fl_Mo_107 dX12_isNamed_29 ?_
          refine sp_icmp_ge X (pc := 32) (tgt := 95) dX12_isNamed_32 (by decide) (fun hb32 => ?_) (fun hb32 => ?_)
          · have hkw : ws ≤ k := sp_nge hb32 (by omega) (by omega)
            refine sp_iload_n X (pc := 95) (x := fl) dX12_isNamed_95 rfl rfl ?_
            refine sp_ireturn X (pc := 96) dX12_isNamed_96 hfl.nar ⟨_, rfl, ?_⟩
            first
              | exact ⟨hfl.iff ⟨fun z => ⟨z.1, fun i hi => z.2 i (by omega)⟩, fun z => ⟨z.1, fun i hi => z.2 i (by omega)⟩⟩, rfl⟩
              | exact ⟨hfl.iff ⟨fun z => absurd z hfl0, fun z => ⟨z.1, fun i hi => z.2 i (by omega)⟩⟩, rfl⟩
          · have hkw : k < ws := sp_nlt hb32 (by omega)
            have hqw := hfl0.1
            refine sp_aload_n X (pc := 35) (r := some (B 0)) dX12_isNamed_35 rfl rfl ?_
            refine sp_getfield X (pc := 36) (c := 13) (i := 11) (t := 2) (a := (B 0)) (v := va_rf (some (B 11))) rfl hVm.r.o (by decide) rfl (congrArg va_rf hVm.f11) fl_Mo_35 dX12_isNamed_36 ?_
            refine sp_bipush X (pc := 39) (v := 16) dX12_isNamed_39 (by decide) ?_
            refine sp_iload_n X (pc := 41) (x := nI j) dX12_isNamed_41 rfl rfl ?_
            refine sp_imul X (pc := 42) dX12_isNamed_42 ?_
            rw [show (16 * (nI j)) = (nI (16 * j)) from (sp_mul 16 j)]
            refine sp_iload X (pc := 43) (x := nI k) dX12_isNamed_43 rfl ?_
            refine sp_iadd X (pc := 45) dX12_isNamed_45 ?_
            rw [show ((nI (16 * j)) + (nI k)) = (nI ((16 * j) + k)) from (nI_add (16 * j) k)]
            refine sp_iaload X (pc := 46) (a := (B 11)) rfl (Or.inl hVm.y11) (sp_in ((16 * j) + k) hVm.l11 (by omega) (by decide)) dX12_isNamed_46 ?_
            rw [show (m.aI (B 11) (nI ((16 * j) + k)).toNatClampNeg) = (m.aI (B 11) ((16 * j) + k)) from (congrArg _ (nI_clamp (n := ((16 * j) + k)) (by omega)))]
            rw [show (m.aI (B 11) ((16 * j) + k)) = (u9.getD k 0) from (hc9 k (by omega))]
            refine sp_istore X (pc := 47) (lv' := [(5, false, .int (u9.getD k 0)), (0, false, va_rf (some (B 0))), (1, false, .int (nI j)), (2, false, .int x), (3, false, .int fl), (4, false, .int (nI k))]) dX12_isNamed_47  (by decide) rfl ?_
            refine sp_iload X (pc := 49) (x := (u9.getD k 0)) dX12_isNamed_49 rfl ?_
            refine sp_aload_n X (pc := 51) (r := some (B 0)) dX12_isNamed_51 rfl rfl ?_
            refine sp_getfield X (pc := 52) (c := 13) (i := 34) (t := 2) (a := (B 0)) (v := va_rf (some (B 34))) rfl hVm.r.o (by decide) rfl (congrArg va_rf hVm.f34) fl_Mo_86 dX12_isNamed_52 ?_
            refine sp_iload X (pc := 55) (x := nI k) dX12_isNamed_55 rfl ?_
            refine sp_iaload X (pc := 57) (a := (B 34)) rfl (Or.inl hVm.y34) (sp_in k hVm.l34 (by omega) (by decide)) dX12_isNamed_57 ?_
            rw [show (m.aI (B 34) (nI k).toNatClampNeg) = (m.aI (B 34) k) from (congrArg _ (nI_clamp (n := k) (by omega)))]
            refine sp_icmp_eq X (pc := 58) (tgt := 83) dX12_isNamed_58 (by decide) (fun hb58 => ?_) (fun hb58 => ?_)
            · refine sp_iconst X (pc := 83) (v := 1) dX12_isNamed_83 (by decide) ?_
              refine sp_goto X (pc := 84) (tgt := 88) dX12_isNamed_84 (by decide) ?_
              refine sp_istore_n X (pc := 88) (lv' := [(3, false, .int 1), (5, false, .int (u9.getD k 0)), (0, false, va_rf (some (B 0))), (1, false, .int (nI j)), (2, false, .int x), (4, false, .int (nI k))]) dX12_isNamed_88 rfl (by decide) rfl ?_
              refine sp_iinc X (pc := 89) (v := (nI (k + 1))) (lv' := [(4, false, .int (nI (k + 1))), (3, false, .int 1), (5, false, .int (u9.getD k 0)), (0, false, va_rf (some (B 0))), (1, false, .int (nI j)), (2, false, .int x)]) dX12_isNamed_89 rfl ((sp_i1 k)) (by decide) rfl ?_
              refine sp_goto X (pc := 92) (tgt := 22) dX12_isNamed_92 (by decide) ?_
              refine sp_pick X [3, 4, 5, 1, 0] (lv' := [(0, false, va_rf (some (B 0))), (1, false, .int (nI j)), (2, false, .int x), (3, false, .int 1), (4, false, .int (nI (k + 1)))]) rfl ?_
              have hst : (u9.length = ws ∧ ∀ i, i < k + 1 → (u9.getD i 0 = m.aI (B 34) i ∨ (x = 0 ∧ sp_sm (u9.getD i 0) = sp_sm (m.aI (B 34) i)))) ↔ (u9.getD k 0 = m.aI (B 34) k ∨ (x = 0 ∧ sp_sm (u9.getD k 0) = sp_sm (m.aI (B 34) k))) := ⟨fun z => z.2 k (by omega), fun z => ⟨hqw, fun i hi => by
                rcases Nat.lt_or_ge i k with q | q
                · exact hfl0.2 i q
                · obtain rfl : i = k := by omega
                  exact z⟩⟩
              first
                | exact ih _ (by omega) 1 (k + 1) (by omega) (sp_bo.t (hst.mpr (Or.inl hb58))) rfl
                | exact ih _ (by omega) 1 (k + 1) (by omega) (sp_bo.t (hst.mpr (Or.inr ⟨hb62, hb80⟩))) rfl
                | exact ih _ (by omega) 0 (k + 1) (by omega) (sp_bo.f (fun z => (hst.mp z).elim hb58 (fun y => hb62 y.1))) rfl
                | exact ih _ (by omega) 0 (k + 1) (by omega) (sp_bo.f (fun z => (hst.mp z).elim hb58 (fun y => hb80 y.2))) rfl
            · refine sp_iload_n X (pc := 61) (x := x) dX12_isNamed_61 rfl rfl ?_
              refine sp_if_ne X (pc := 62) (tgt := 87) dX12_isNamed_62 (by decide) (fun hb62 => ?_) (fun hb62 => ?_)
              · refine sp_iconst X (pc := 87) (v := 0) dX12_isNamed_87 (by decide) ?_
                refine sp_istore_n X (pc := 88) (lv' := [(3, false, .int 0), (5, false, .int (u9.getD k 0)), (0, false, va_rf (some (B 0))), (1, false, .int (nI j)), (2, false, .int x), (4, false, .int (nI k))]) dX12_isNamed_88 rfl (by decide) rfl ?_
                refine sp_iinc X (pc := 89) (v := (nI (k + 1))) (lv' := [(4, false, .int (nI (k + 1))), (3, false, .int 0), (5, false, .int (u9.getD k 0)), (0, false, va_rf (some (B 0))), (1, false, .int (nI j)), (2, false, .int x)]) dX12_isNamed_89 rfl ((sp_i1 k)) (by decide) rfl ?_
                refine sp_goto X (pc := 92) (tgt := 22) dX12_isNamed_92 (by decide) ?_
                refine sp_pick X [3, 4, 5, 1, 0] (lv' := [(0, false, va_rf (some (B 0))), (1, false, .int (nI j)), (2, false, .int x), (3, false, .int 0), (4, false, .int (nI (k + 1)))]) rfl ?_
                have hst : (u9.length = ws ∧ ∀ i, i < k + 1 → (u9.getD i 0 = m.aI (B 34) i ∨ (x = 0 ∧ sp_sm (u9.getD i 0) = sp_sm (m.aI (B 34) i)))) ↔ (u9.getD k 0 = m.aI (B 34) k ∨ (x = 0 ∧ sp_sm (u9.getD k 0) = sp_sm (m.aI (B 34) k))) := ⟨fun z => z.2 k (by omega), fun z => ⟨hqw, fun i hi => by
                  rcases Nat.lt_or_ge i k with q | q
                  · exact hfl0.2 i q
                  · obtain rfl : i = k := by omega
                    exact z⟩⟩
                first
                  | exact ih _ (by omega) 1 (k + 1) (by omega) (sp_bo.t (hst.mpr (Or.inl hb58))) rfl
                  | exact ih _ (by omega) 1 (k + 1) (by omega) (sp_bo.t (hst.mpr (Or.inr ⟨hb62, hb80⟩))) rfl
                  | exact ih _ (by omega) 0 (k + 1) (by omega) (sp_bo.f (fun z => (hst.mp z).elim hb58 (fun y => hb62 y.1))) rfl
                  | exact ih _ (by omega) 0 (k + 1) (by omega) (sp_bo.f (fun z => (hst.mp z).elim hb58 (fun y => hb80 y.2))) rfl
              · refine sp_iload X (pc := 65) (x := (u9.getD k 0)) dX12_isNamed_65 rfl ?_
                refine sp_callS X (pc := 67) (mc := 0) (ms := 0) (As := [.int (u9.getD k 0)]) (rest := []) (c_Mo_small l G _) ok_Mo_small lk_Mo_128 rfl rfl (Nat.zero_le _) (Nat.le_of_ble_eq_true rfl) (Nat.le_of_ble_eq_true rfl) (Nat.zero_le _) (Nat.zero_le _) dX12_isNamed_67 (sp_kI fun v67 m67 hp67 => ?_)
                obtain ⟨hp67v, hp67⟩ := hp67; replace hp67 := (hp67).symm; subst hp67; replace hp67v := (hp67v).symm; subst hp67v
                refine sp_aload_n X (pc := 70) (r := some (B 0)) dX12_isNamed_70 rfl rfl ?_
                refine sp_getfield X (pc := 71) (c := 13) (i := 34) (t := 2) (a := (B 0)) (v := va_rf (some (B 34))) rfl hVm.r.o (by decide) rfl (congrArg va_rf hVm.f34) fl_Mo_86 dX12_isNamed_71 ?_
                refine sp_iload X (pc := 74) (x := nI k) dX12_isNamed_74 rfl ?_
                refine sp_iaload X (pc := 76) (a := (B 34)) rfl (Or.inl hVm.y34) (sp_in k hVm.l34 (by omega) (by decide)) dX12_isNamed_76 ?_
                rw [show (m.aI (B 34) (nI k).toNatClampNeg) = (m.aI (B 34) k) from (congrArg _ (nI_clamp (n := k) (by omega)))]
                refine sp_callS X (pc := 77) (mc := 0) (ms := 0) (As := [.int (m.aI (B 34) k)]) (rest := [.int (sp_sm (u9.getD k 0))]) (c_Mo_small l G _) ok_Mo_small lk_Mo_128 rfl rfl (by simp [sp_cat_rf, sp_cat_i, sp_cat_l]) (Nat.le_of_ble_eq_true rfl) (Nat.le_of_ble_eq_true rfl) (Nat.zero_le _) (Nat.zero_le _) dX12_isNamed_77 (sp_kI fun v77 m77 hp77 => ?_)
                obtain ⟨hp77v, hp77⟩ := hp77; replace hp77 := (hp77).symm; subst hp77; replace hp77v := (hp77v).symm; subst hp77v
                refine sp_icmp_ne X (pc := 80) (tgt := 87) dX12_isNamed_80 (by decide) (fun hb80 => ?_) (fun hb80 => ?_)
                · refine sp_iconst X (pc := 87) (v := 0) dX12_isNamed_87 (by decide) ?_
                  refine sp_istore_n X (pc := 88) (lv' := [(3, false, .int 0), (5, false, .int (u9.getD k 0)), (0, false, va_rf (some (B 0))), (1, false, .int (nI j)), (2, false, .int x), (4, false, .int (nI k))]) dX12_isNamed_88 rfl (by decide) rfl ?_
                  refine sp_iinc X (pc := 89) (v := (nI (k + 1))) (lv' := [(4, false, .int (nI (k + 1))), (3, false, .int 0), (5, false, .int (u9.getD k 0)), (0, false, va_rf (some (B 0))), (1, false, .int (nI j)), (2, false, .int x)]) dX12_isNamed_89 rfl ((sp_i1 k)) (by decide) rfl ?_
                  refine sp_goto X (pc := 92) (tgt := 22) dX12_isNamed_92 (by decide) ?_
                  refine sp_pick X [3, 4, 5, 1, 0] (lv' := [(0, false, va_rf (some (B 0))), (1, false, .int (nI j)), (2, false, .int x), (3, false, .int 0), (4, false, .int (nI (k + 1)))]) rfl ?_
                  have hst : (u9.length = ws ∧ ∀ i, i < k + 1 → (u9.getD i 0 = m.aI (B 34) i ∨ (x = 0 ∧ sp_sm (u9.getD i 0) = sp_sm (m.aI (B 34) i)))) ↔ (u9.getD k 0 = m.aI (B 34) k ∨ (x = 0 ∧ sp_sm (u9.getD k 0) = sp_sm (m.aI (B 34) k))) := ⟨fun z => z.2 k (by omega), fun z => ⟨hqw, fun i hi => by
                    rcases Nat.lt_or_ge i k with q | q
                    · exact hfl0.2 i q
                    · obtain rfl : i = k := by omega
                      exact z⟩⟩
                  first
                    | exact ih _ (by omega) 1 (k + 1) (by omega) (sp_bo.t (hst.mpr (Or.inl hb58))) rfl
                    | exact ih _ (by omega) 1 (k + 1) (by omega) (sp_bo.t (hst.mpr (Or.inr ⟨hb62, hb80⟩))) rfl
                    | exact ih _ (by omega) 0 (k + 1) (by omega) (sp_bo.f (fun z => (hst.mp z).elim hb58 (fun y => hb62 y.1))) rfl
                    | exact ih _ (by omega) 0 (k + 1) (by omega) (sp_bo.f (fun z => (hst.mp z).elim hb58 (fun y => hb80 y.2))) rfl
                · refine sp_iconst X (pc := 83) (v := 1) dX12_isNamed_83 (by decide) ?_
                  refine sp_goto X (pc := 84) (tgt := 88) dX12_isNamed_84 (by decide) ?_
                  refine sp_istore_n X (pc := 88) (lv' := [(3, false, .int 1), (5, false, .int (u9.getD k 0)), (0, false, va_rf (some (B 0))), (1, false, .int (nI j)), (2, false, .int x), (4, false, .int (nI k))]) dX12_isNamed_88 rfl (by decide) rfl ?_
                  refine sp_iinc X (pc := 89) (v := (nI (k + 1))) (lv' := [(4, false, .int (nI (k + 1))), (3, false, .int 1), (5, false, .int (u9.getD k 0)), (0, false, va_rf (some (B 0))), (1, false, .int (nI j)), (2, false, .int x)]) dX12_isNamed_89 rfl ((sp_i1 k)) (by decide) rfl ?_
                  refine sp_goto X (pc := 92) (tgt := 22) dX12_isNamed_92 (by decide) ?_
                  refine sp_pick X [3, 4, 5, 1, 0] (lv' := [(0, false, va_rf (some (B 0))), (1, false, .int (nI j)), (2, false, .int x), (3, false, .int 1), (4, false, .int (nI (k + 1)))]) rfl ?_
                  have hst : (u9.length = ws ∧ ∀ i, i < k + 1 → (u9.getD i 0 = m.aI (B 34) i ∨ (x = 0 ∧ sp_sm (u9.getD i 0) = sp_sm (m.aI (B 34) i)))) ↔ (u9.getD k 0 = m.aI (B 34) k ∨ (x = 0 ∧ sp_sm (u9.getD k 0) = sp_sm (m.aI (B 34) k))) := ⟨fun z => z.2 k (by omega), fun z => ⟨hqw, fun i hi => by
                    rcases Nat.lt_or_ge i k with q | q
                    · exact hfl0.2 i q
                    · obtain rfl : i = k := by omega
                      exact z⟩⟩
                  first
                    | exact ih _ (by omega) 1 (k + 1) (by omega) (sp_bo.t (hst.mpr (Or.inl hb58))) rfl
                    | exact ih _ (by omega) 1 (k + 1) (by omega) (sp_bo.t (hst.mpr (Or.inr ⟨hb62, hb80⟩))) rfl
                    | exact ih _ (by omega) 0 (k + 1) (by omega) (sp_bo.f (fun z => (hst.mp z).elim hb58 (fun y => hb62 y.1))) rfl
                    | exact ih _ (by omega) 0 (k + 1) (by omega) (sp_bo.f (fun z => (hst.mp z).elim hb58 (fun y => hb80 y.2))) rfl
    refine sp_pick X [2, 3, 4, 1, 0] (lv' := [(0, false, va_rf (some (B 0))), (1, false, .int (nI j)), (2, false, .int x), (3, false, .int 0), (4, false, .int 0)]) rfl ?_
    first | exact loop22 _ 1 0 (Nat.zero_le _) (sp_bo.t ⟨hqw, fun i z => absurd z (Nat.not_lt_zero _)⟩) rfl | exact loop22 _ 0 0 (Nat.zero_le _) (sp_bo.f (fun z => hqw z.1)) rfl
  · have hqw : u9.length = ws := sp_neq hb10 (by omega) (by omega)
    refine sp_iconst X (pc := 13) (v := 1) dX12_isNamed_13 (by decide) ?_
    refine sp_goto X (pc := 14) (tgt := 18) dX12_isNamed_14 (by decide) ?_
    refine sp_istore_n X (pc := 18) (lv' := [(3, false, .int 1), (0, false, va_rf (some (B 0))), (1, false, .int (nI j)), (2, false, .int x)]) dX12_isNamed_18 rfl (by decide) rfl ?_
    refine sp_iconst X (pc := 19) (v := 0) dX12_isNamed_19 (by decide) ?_
    refine sp_istore X (pc := 20) (lv' := [(4, false, .int 0), (3, false, .int 1), (0, false, va_rf (some (B 0))), (1, false, .int (nI j)), (2, false, .int x)]) dX12_isNamed_20  (by decide) rfl ?_
    have loop22 : ∀ (dz : Nat) (fl : Int32) (k : Nat), k ≤ ws → sp_bo fl (u9.length = ws ∧ ∀ i, i < k → (u9.getD i 0 = m.aI (B 34) i ∨ (x = 0 ∧ sp_sm (u9.getD i 0) = sp_sm (m.aI (B 34) i)))) → ws - k = dz → w 0 0 m 22 [(0, false, va_rf (some (B 0))), (1, false, .int (nI j)), (2, false, .int x), (3, false, .int fl), (4, false, .int (nI k))] [] := by
      intro dz
      induction dz using Nat.strongRecOn with
      | ind dz ih =>
        intro fl k hk hfl hdz
        refine sp_iload_n X (pc := 22) (x := fl) dX12_isNamed_22 rfl rfl ?_
        refine sp_if_eq X (pc := 23) (tgt := 95) dX12_isNamed_23 (by decide) (fun hb23 => ?_) (fun hb23 => ?_)
        · have hfl0 := hfl.eq hb23
          refine sp_iload_n X (pc := 95) (x := fl) dX12_isNamed_95 rfl rfl ?_
          refine sp_ireturn X (pc := 96) dX12_isNamed_96 hfl.nar ⟨_, rfl, ?_⟩
          first
            | exact ⟨hfl.iff ⟨fun z => ⟨z.1, fun i hi => z.2 i (by omega)⟩, fun z => ⟨z.1, fun i hi => z.2 i (by omega)⟩⟩, rfl⟩
            | exact ⟨hfl.iff ⟨fun z => absurd z hfl0, fun z => ⟨z.1, fun i hi => z.2 i (by omega)⟩⟩, rfl⟩
        · have hfl0 := hfl.ne hb23
          refine sp_iload X (pc := 26) (x := nI k) dX12_isNamed_26 rfl ?_
          refine sp_aload_n X (pc := 28) (r := some (B 0)) dX12_isNamed_28 rfl rfl ?_
          refine sp_getfield X (pc := 29) (c := 13) (i := 35) (t := 0) (a := (B 0)) (v := .int (nI ws)) rfl hVm.r.o (by decide) rfl (congrArg Value.int hVm.cw) fl_Mo_107 dX12_isNamed_29 ?_
          refine sp_icmp_ge X (pc := 32) (tgt := 95) dX12_isNamed_32 (by decide) (fun hb32 => ?_) (fun hb32 => ?_)
          · have hkw : ws ≤ k := sp_nge hb32 (by omega) (by omega)
            refine sp_iload_n X (pc := 95) (x := fl) dX12_isNamed_95 rfl rfl ?_
            refine sp_ireturn X (pc := 96) dX12_isNamed_96 hfl.nar ⟨_, rfl, ?_⟩
            first
              | exact ⟨hfl.iff ⟨fun z => ⟨z.1, fun i hi => z.2 i (by omega)⟩, fun z => ⟨z.1, fun i hi => z.2 i (by omega)⟩⟩, rfl⟩
              | exact ⟨hfl.iff ⟨fun z => absurd z hfl0, fun z => ⟨z.1, fun i hi => z.2 i (by omega)⟩⟩, rfl⟩
          · have hkw : k < ws := sp_nlt hb32 (by omega)
            have hqw := hfl0.1
            refine sp_aload_n X (pc := 35) (r := some (B 0)) dX12_isNamed_35 rfl rfl ?_
            refine sp_getfield X (pc := 36) (c := 13) (i := 11) (t := 2) (a := (B 0)) (v := va_rf (some (B 11))) rfl hVm.r.o (by decide) rfl (congrArg va_rf hVm.f11) fl_Mo_35 dX12_isNamed_36 ?_
            refine sp_bipush X (pc := 39) (v := 16) dX12_isNamed_39 (by decide) ?_
            refine sp_iload_n X (pc := 41) (x := nI j) dX12_isNamed_41 rfl rfl ?_
            refine sp_imul X (pc := 42) dX12_isNamed_42 ?_
            rw [show (16 * (nI j)) = (nI (16 * j)) from (sp_mul 16 j)]
            refine sp_iload X (pc := 43) (x := nI k) dX12_isNamed_43 rfl ?_
            refine sp_iadd X (pc := 45) dX12_isNamed_45 ?_
            rw [show ((nI (16 * j)) + (nI k)) = (nI ((16 * j) + k)) from (nI_add (16 * j) k)]
            refine sp_iaload X (pc := 46) (a := (B 11)) rfl (Or.inl hVm.y11) (sp_in ((16 * j) + k) hVm.l11 (by omega) (by decide)) dX12_isNamed_46 ?_
            rw [show (m.aI (B 11) (nI ((16 * j) + k)).toNatClampNeg) = (m.aI (B 11) ((16 * j) + k)) from (congrArg _ (nI_clamp (n := ((16 * j) + k)) (by omega)))]
            rw [show (m.aI (B 11) ((16 * j) + k)) = (u9.getD k 0) from (hc9 k (by omega))]
            refine sp_istore X (pc := 47) (lv' := [(5, false, .int (u9.getD k 0)), (0, false, va_rf (some (B 0))), (1, false, .int (nI j)), (2, false, .int x), (3, false, .int fl), (4, false, .int (nI k))]) dX12_isNamed_47  (by decide) rfl ?_
            refine sp_iload X (pc := 49) (x := (u9.getD k 0)) dX12_isNamed_49 rfl ?_
            refine sp_aload_n X (pc := 51) (r := some (B 0)) dX12_isNamed_51 rfl rfl ?_
            refine sp_getfield X (pc := 52) (c := 13) (i := 34) (t := 2) (a := (B 0)) (v := va_rf (some (B 34))) rfl hVm.r.o (by decide) rfl (congrArg va_rf hVm.f34) fl_Mo_86 dX12_isNamed_52 ?_
            refine sp_iload X (pc := 55) (x := nI k) dX12_isNamed_55 rfl ?_
            refine sp_iaload X (pc := 57) (a := (B 34)) rfl (Or.inl hVm.y34) (sp_in k hVm.l34 (by omega) (by decide)) dX12_isNamed_57 ?_
            rw [show (m.aI (B 34) (nI k).toNatClampNeg) = (m.aI (B 34) k) from (congrArg _ (nI_clamp (n := k) (by omega)))]
            refine sp_icmp_eq X (pc := 58) (tgt := 83) dX12_isNamed_58 (by decide) (fun hb58 => ?_) (fun hb58 => ?_)
            · refine sp_iconst X (pc := 83) (v := 1) dX12_isNamed_83 (by decide) ?_
              refine sp_goto X (pc := 84) (tgt := 88) dX12_isNamed_84 (by decide) ?_
              refine sp_istore_n X (pc := 88) (lv' := [(3, false, .int 1), (5, false, .int (u9.getD k 0)), (0, false, va_rf (some (B 0))), (1, false, .int (nI j)), (2, false, .int x), (4, false, .int (nI k))]) dX12_isNamed_88 rfl (by decide) rfl ?_
              refine sp_iinc X (pc := 89) (v := (nI (k + 1))) (lv' := [(4, false, .int (nI (k + 1))), (3, false, .int 1), (5, false, .int (u9.getD k 0)), (0, false, va_rf (some (B 0))), (1, false, .int (nI j)), (2, false, .int x)]) dX12_isNamed_89 rfl ((sp_i1 k)) (by decide) rfl ?_
              refine sp_goto X (pc := 92) (tgt := 22) dX12_isNamed_92 (by decide) ?_
              refine sp_pick X [3, 4, 5, 1, 0] (lv' := [(0, false, va_rf (some (B 0))), (1, false, .int (nI j)), (2, false, .int x), (3, false, .int 1), (4, false, .int (nI (k + 1)))]) rfl ?_
              have hst : (u9.length = ws ∧ ∀ i, i < k + 1 → (u9.getD i 0 = m.aI (B 34) i ∨ (x = 0 ∧ sp_sm (u9.getD i 0) = sp_sm (m.aI (B 34) i)))) ↔ (u9.getD k 0 = m.aI (B 34) k ∨ (x = 0 ∧ sp_sm (u9.getD k 0) = sp_sm (m.aI (B 34) k))) := ⟨fun z => z.2 k (by omega), fun z => ⟨hqw, fun i hi => by
                rcases Nat.lt_or_ge i k with q | q
                · exact hfl0.2 i q
                · obtain rfl : i = k := by omega
                  exact z⟩⟩
              first
                | exact ih _ (by omega) 1 (k + 1) (by omega) (sp_bo.t (hst.mpr (Or.inl hb58))) rfl
                | exact ih _ (by omega) 1 (k + 1) (by omega) (sp_bo.t (hst.mpr (Or.inr ⟨hb62, hb80⟩))) rfl
                | exact ih _ (by omega) 0 (k + 1) (by omega) (sp_bo.f (fun z => (hst.mp z).elim hb58 (fun y => hb62 y.1))) rfl
                | exact ih _ (by omega) 0 (k + 1) (by omega) (sp_bo.f (fun z => (hst.mp z).elim hb58 (fun y => hb80 y.2))) rfl
            · refine sp_iload_n X (pc := 61) (x := x) dX12_isNamed_61 rfl rfl ?_
              refine sp_if_ne X (pc := 62) (tgt := 87) dX12_isNamed_62 (by decide) (fun hb62 => ?_) (fun hb62 => ?_)
              · refine sp_iconst X (pc := 87) (v := 0) dX12_isNamed_87 (by decide) ?_
                refine sp_istore_n X (pc := 88) (lv' := [(3, false, .int 0), (5, false, .int (u9.getD k 0)), (0, false, va_rf (some (B 0))), (1, false, .int (nI j)), (2, false, .int x), (4, false, .int (nI k))]) dX12_isNamed_88 rfl (by decide) rfl ?_
                refine sp_iinc X (pc := 89) (v := (nI (k + 1))) (lv' := [(4, false, .int (nI (k + 1))), (3, false, .int 0), (5, false, .int (u9.getD k 0)), (0, false, va_rf (some (B 0))), (1, false, .int (nI j)), (2, false, .int x)]) dX12_isNamed_89 rfl ((sp_i1 k)) (by decide) rfl ?_
                refine sp_goto X (pc := 92) (tgt := 22) dX12_isNamed_92 (by decide) ?_
                refine sp_pick X [3, 4, 5, 1, 0] (lv' := [(0, false, va_rf (some (B 0))), (1, false, .int (nI j)), (2, false, .int x), (3, false, .int 0), (4, false, .int (nI (k + 1)))]) rfl ?_
                have hst : (u9.length = ws ∧ ∀ i, i < k + 1 → (u9.getD i 0 = m.aI (B 34) i ∨ (x = 0 ∧ sp_sm (u9.getD i 0) = sp_sm (m.aI (B 34) i)))) ↔ (u9.getD k 0 = m.aI (B 34) k ∨ (x = 0 ∧ sp_sm (u9.getD k 0) = sp_sm (m.aI (B 34) k))) := ⟨fun z => z.2 k (by omega), fun z => ⟨hqw, fun i hi => by
                  rcases Nat.lt_or_ge i k with q | q
                  · exact hfl0.2 i q
                  · obtain rfl : i = k := by omega
                    exact z⟩⟩
                first
                  | exact ih _ (by omega) 1 (k + 1) (by omega) (sp_bo.t (hst.mpr (Or.inl hb58))) rfl
                  | exact ih _ (by omega) 1 (k + 1) (by omega) (sp_bo.t (hst.mpr (Or.inr ⟨hb62, hb80⟩))) rfl
                  | exact ih _ (by omega) 0 (k + 1) (by omega) (sp_bo.f (fun z => (hst.mp z).elim hb58 (fun y => hb62 y.1))) rfl
                  | exact ih _ (by omega) 0 (k + 1) (by omega) (sp_bo.f (fun z => (hst.mp z).elim hb58 (fun y => hb80 y.2))) rfl
              · refine sp_iload X (pc := 65) (x := (u9.getD k 0)) dX12_isNamed_65 rfl ?_
                refine sp_callS X (pc := 67) (mc := 0) (ms := 0) (As := [.int (u9.getD k 0)]) (rest := []) (c_Mo_small l G _) ok_Mo_small lk_Mo_128 rfl rfl (Nat.zero_le _) (Nat.le_of_ble_eq_true rfl) (Nat.le_of_ble_eq_true rfl) (Nat.zero_le _) (Nat.zero_le _) dX12_isNamed_67 (sp_kI fun v67 m67 hp67 => ?_)
                obtain ⟨hp67v, hp67⟩ := hp67; replace hp67 := (hp67).symm; subst hp67; replace hp67v := (hp67v).symm; subst hp67v
                refine sp_aload_n X (pc := 70) (r := some (B 0)) dX12_isNamed_70 rfl rfl ?_
                refine sp_getfield X (pc := 71) (c := 13) (i := 34) (t := 2) (a := (B 0)) (v := va_rf (some (B 34))) rfl hVm.r.o (by decide) rfl (congrArg va_rf hVm.f34) fl_Mo_86 dX12_isNamed_71 ?_
                refine sp_iload X (pc := 74) (x := nI k) dX12_isNamed_74 rfl ?_
                refine sp_iaload X (pc := 76) (a := (B 34)) rfl (Or.inl hVm.y34) (sp_in k hVm.l34 (by omega) (by decide)) dX12_isNamed_76 ?_
                rw [show (m.aI (B 34) (nI k).toNatClampNeg) = (m.aI (B 34) k) from (congrArg _ (nI_clamp (n := k) (by omega)))]
                refine sp_callS X (pc := 77) (mc := 0) (ms := 0) (As := [.int (m.aI (B 34) k)]) (rest := [.int (sp_sm (u9.getD k 0))]) (c_Mo_small l G _) ok_Mo_small lk_Mo_128 rfl rfl (by simp [sp_cat_rf, sp_cat_i, sp_cat_l]) (Nat.le_of_ble_eq_true rfl) (Nat.le_of_ble_eq_true rfl) (Nat.zero_le _) (Nat.zero_le _) dX12_isNamed_77 (sp_kI fun v77 m77 hp77 => ?_)
                obtain ⟨hp77v, hp77⟩ := hp77; replace hp77 := (hp77).symm; subst hp77; replace hp77v := (hp77v).symm; subst hp77v
                refine sp_icmp_ne X (pc := 80) (tgt := 87) dX12_isNamed_80 (by decide) (fun hb80 => ?_) (fun hb80 => ?_)
                · refine sp_iconst X (pc := 87) (v := 0) dX12_isNamed_87 (by decide) ?_
                  refine sp_istore_n X (pc := 88) (lv' := [(3, false, .int 0), (5, false, .int (u9.getD k 0)), (0, false, va_rf (some (B 0))), (1, false, .int (nI j)), (2, false, .int x), (4, false, .int (nI k))]) dX12_isNamed_88 rfl (by decide) rfl ?_
                  refine sp_iinc X (pc := 89) (v := (nI (k + 1))) (lv' := [(4, false, .int (nI (k + 1))), (3, false, .int 0), (5, false, .int (u9.getD k 0)), (0, false, va_rf (some (B 0))), (1, false, .int (nI j)), (2, false, .int x)]) dX12_isNamed_89 rfl ((sp_i1 k)) (by decide) rfl ?_
                  refine sp_goto X (pc := 92) (tgt := 22) dX12_isNamed_92 (by decide) ?_
                  refine sp_pick X [3, 4, 5, 1, 0] (lv' := [(0, false, va_rf (some (B 0))), (1, false, .int (nI j)), (2, false, .int x), (3, false, .int 0), (4, false, .int (nI (k + 1)))]) rfl ?_
                  have hst : (u9.length = ws ∧ ∀ i, i < k + 1 → (u9.getD i 0 = m.aI (B 34) i ∨ (x = 0 ∧ sp_sm (u9.getD i 0) = sp_sm (m.aI (B 34) i)))) ↔ (u9.getD k 0 = m.aI (B 34) k ∨ (x = 0 ∧ sp_sm (u9.getD k 0) = sp_sm (m.aI (B 34) k))) := ⟨fun z => z.2 k (by omega), fun z => ⟨hqw, fun i hi => by
                    rcases Nat.lt_or_ge i k with q | q
                    · exact hfl0.2 i q
                    · obtain rfl : i = k := by omega
                      exact z⟩⟩
                  first
                    | exact ih _ (by omega) 1 (k + 1) (by omega) (sp_bo.t (hst.mpr (Or.inl hb58))) rfl
                    | exact ih _ (by omega) 1 (k + 1) (by omega) (sp_bo.t (hst.mpr (Or.inr ⟨hb62, hb80⟩))) rfl
                    | exact ih _ (by omega) 0 (k + 1) (by omega) (sp_bo.f (fun z => (hst.mp z).elim hb58 (fun y => hb62 y.1))) rfl
                    | exact ih _ (by omega) 0 (k + 1) (by omega) (sp_bo.f (fun z => (hst.mp z).elim hb58 (fun y => hb80 y.2))) rfl
                · refine sp_iconst X (pc := 83) (v := 1) dX12_isNamed_83 (by decide) ?_
                  refine sp_goto X (pc := 84) (tgt := 88) dX12_isNamed_84 (by decide) ?_
                  refine sp_istore_n X (pc := 88) (lv' := [(3, false, .int 1), (5, false, .int (u9.getD k 0)), (0, false, va_rf (some (B 0))), (1, false, .int (nI j)), (2, false, .int x), (4, false, .int (nI k))]) dX12_isNamed_88 rfl (by decide) rfl ?_
                  refine sp_iinc X (pc := 89) (v := (nI (k + 1))) (lv' := [(4, false, .int (nI (k + 1))), (3, false, .int 1), (5, false, .int (u9.getD k 0)), (0, false, va_rf (some (B 0))), (1, false, .int (nI j)), (2, false, .int x)]) dX12_isNamed_89 rfl ((sp_i1 k)) (by decide) rfl ?_
                  refine sp_goto X (pc := 92) (tgt := 22) dX12_isNamed_92 (by decide) ?_
                  refine sp_pick X [3, 4, 5, 1, 0] (lv' := [(0, false, va_rf (some (B 0))), (1, false, .int (nI j)), (2, false, .int x), (3, false, .int 1), (4, false, .int (nI (k + 1)))]) rfl ?_
                  have hst : (u9.length = ws ∧ ∀ i, i < k + 1 → (u9.getD i 0 = m.aI (B 34) i ∨ (x = 0 ∧ sp_sm (u9.getD i 0) = sp_sm (m.aI (B 34) i)))) ↔ (u9.getD k 0 = m.aI (B 34) k ∨ (x = 0 ∧ sp_sm (u9.getD k 0) = sp_sm (m.aI (B 34) k))) := ⟨fun z => z.2 k (by omega), fun z => ⟨hqw, fun i hi => by
                    rcases Nat.lt_or_ge i k with q | q
                    · exact hfl0.2 i q
                    · obtain rfl : i = k := by omega
                      exact z⟩⟩
                  first
                    | exact ih _ (by omega) 1 (k + 1) (by omega) (sp_bo.t (hst.mpr (Or.inl hb58))) rfl
                    | exact ih _ (by omega) 1 (k + 1) (by omega) (sp_bo.t (hst.mpr (Or.inr ⟨hb62, hb80⟩))) rfl
                    | exact ih _ (by omega) 0 (k + 1) (by omega) (sp_bo.f (fun z => (hst.mp z).elim hb58 (fun y => hb62 y.1))) rfl
                    | exact ih _ (by omega) 0 (k + 1) (by omega) (sp_bo.f (fun z => (hst.mp z).elim hb58 (fun y => hb80 y.2))) rfl
    refine sp_pick X [2, 3, 4, 1, 0] (lv' := [(0, false, va_rf (some (B 0))), (1, false, .int (nI j)), (2, false, .int x), (3, false, .int 1), (4, false, .int 0)]) rfl ?_
    first | exact loop22 _ 1 0 (Nat.zero_le _) (sp_bo.t ⟨hqw, fun i z => absurd z (Nat.not_lt_zero _)⟩) rfl | exact loop22 _ 0 0 (Nat.zero_le _) (sp_bo.f (fun z => hqw z.1)) rfl
set_option maxRecDepth 20000 in
theorem c_Mo_in (l : Launch) (G : sp_G) (m : sp_M) {B : Nat → Nat} {m0 : sp_M} {D : Nat → Int32} {R : Int32} {l0 l1 : Int64} {d n b p t e L ws : Nat} {vq vm vl : Int32} {vs : Int64} {vA vE : Nat → Int64} (hVm : sp_V B m0 m D R l0 l1 d n b p t e L ws vq vm vl vs vA vE)  {T : pu_N} {nb0 nt0 : Nat} (hMN : sp_mN m B n L T) (hW : pu_W n nb0 nt0 T) {f : Nat} (hf : f < n) (hw1 : 1 ≤ ws) : sp_C l G M_Mo_in 0 0 [.ref (B 0), .int (nI f)] m (sp_oI fun v m' => (∃ o, pu_in R n T f (sp_wu m B ws) o ∧ ((o = none ∧ v = -1) ∨ ∃ j, o = some j ∧ v = nI j)) ∧ m' = m) := by
  refine sp_enter (lv0 := [(0, false, va_rf (some (B 0))), (1, false, .int (nI f))]) "SafePathsModel" false rfl (by decide) (fun h => by cases h) (Nat.le_of_ble_eq_true rfl) rfl ?_
  intro w X
  have bd := hVm.hd
  have bn := hVm.hn
  have bb := hVm.hb
  have bp := hVm.hp
  have bt := hVm.ht
  have be := hVm.he
  have bw := hVm.hw
  have bL := hVm.hL
  obtain ⟨h0a, h0b⟩ := hW.n0 (f := f) (u := sp_wu m B ws) (by rw [sp_wu_len]; exact hw1)
  refine sp_iconst X (pc := 0) (v := 0) dX12_in_0 (by decide) ?_
  refine sp_istore_n X (pc := 1) (lv' := [(2, false, .int 0), (0, false, va_rf (some (B 0))), (1, false, .int (nI f))]) dX12_in_1 rfl (by decide) rfl ?_
  have loop2 : ∀ (dz : Nat) (s : Nat), s ≤ 2 → (1 ≤ s → ∀ i, ¬ pu_sa T n f (sp_wu m B ws) i) → (2 ≤ s → ∀ i, ¬ pu_lk T n f (sp_wu m B ws) i) → 2 - s = dz → w 0 0 m 2 [(0, false, va_rf (some (B 0))), (1, false, .int (nI f)), (2, false, .int (nI s))] [] := by
    intro dz
    induction dz using Nat.strongRecOn with
    | ind dz ih =>
      intro s hs hsa hlk hdz
      have ihA := ih
      refine sp_iload_n X (pc := 2) (x := nI s) dX12_in_2 rfl rfl ?_
      refine sp_aload_n X (pc := 3) (r := some (B 0)) dX12_in_3 rfl rfl ?_
      refine sp_iconst X (pc := 4) (v := 2) dX12_in_4 (by decide) ?_
      refine sp_callV X (pc := 5) (mc := 0) (ms := 0) (b := (B 0)) (c := 13) (r := some (B 0)) (As := [.int 2]) (rest := [.int (nI s)]) (c_Mo_hasRule l G _ hVm) ok_Mo_hasRule rfl hVm.r.o (by decide) rfl lk_Mo_118 rfl rfl (by simp [sp_cat_rf, sp_cat_i, sp_cat_l]) (Nat.le_of_ble_eq_true rfl) (Nat.le_of_ble_eq_true rfl) (Nat.zero_le _) (Nat.zero_le _) dX12_in_5 (sp_kI fun v5 m5 hp5 => ?_)
      obtain ⟨hp5v, hp5⟩ := hp5; replace hp5 := (hp5).symm; subst hp5; replace hp5v := (hp5v).symm; subst hp5v
      refine sp_if_eq X (pc := 8) (tgt := 15) dX12_in_8 (by decide) (fun hb8 => ?_) (fun hb8 => ?_)
      · refine sp_iconst X (pc := 15) (v := 1) dX12_in_15 (by decide) ?_
        refine sp_icmp_ge X (pc := 16) (tgt := 79) dX12_in_16 (by decide) (fun hb16 => ?_) (fun hb16 => ?_)
        · have hs1 : (1 ≤ s ∧ sp_hr R 2 = 0) ∨ (2 ≤ s ∧ ¬ sp_hr R 2 = 0) := by
            first | exact Or.inr ⟨sp_nge (a := s) (b := 2) hb16 (by omega) (by omega), hb8⟩ | exact Or.inl ⟨sp_nge (a := s) (b := 1) hb16 (by omega) (by omega), hb8⟩
          refine sp_iconst X (pc := 79) (v := (-1)) dX12_in_79 (by decide) ?_
          refine sp_ireturn X (pc := 80) dX12_in_80 rfl ⟨_, rfl, ?_⟩
          first
            | exact ⟨⟨none, Or.inr (Or.inr ⟨hsa (by omega), Or.inl hb8, rfl⟩), Or.inl ⟨rfl, rfl⟩⟩, rfl⟩
            | (have h2 : 2 ≤ s := hs1.elim (fun z => absurd z.2 hb8) (fun z => z.1)
               exact ⟨⟨none, Or.inr (Or.inr ⟨hsa (by omega), Or.inr (hlk h2), rfl⟩), Or.inl ⟨rfl, rfl⟩⟩, rfl⟩)
        · have hs1 : s < 2 ∧ (s = 1 → ¬ sp_hr R 2 = 0) := by
            first | exact ⟨sp_nlt (b := 2) hb16 (by omega), fun _ => hb8⟩ | exact ⟨Nat.lt_trans (sp_nlt (b := 1) hb16 (by omega)) (by omega), fun z => absurd (sp_nlt (b := 1) hb16 (by omega)) (by omega)⟩
          obtain ⟨hs2, hR2⟩ := hs1
          refine sp_iconst X (pc := 19) (v := 1) dX12_in_19 (by decide) ?_
          refine sp_istore_n X (pc := 20) (lv' := [(3, false, .int 1), (0, false, va_rf (some (B 0))), (1, false, .int (nI f)), (2, false, .int (nI s))]) dX12_in_20 rfl (by decide) rfl ?_
          have loop21 : ∀ (dz : Nat) (j : Nat), 1 ≤ j → j ≤ 201 → (∀ i, i < j → (s = 0 → ¬ pu_sa T n f (sp_wu m B ws) i) ∧ (s = 1 → ¬ pu_lk T n f (sp_wu m B ws) i)) → n - j = dz → w 0 0 m 21 [(0, false, va_rf (some (B 0))), (1, false, .int (nI f)), (2, false, .int (nI s)), (3, false, .int (nI j))] [] := by
            intro dz
            induction dz using Nat.strongRecOn with
            | ind dz ih =>
              intro j hj hj2 hQ hdz
              refine sp_iload_n X (pc := 21) (x := nI j) dX12_in_21 rfl rfl ?_
              refine sp_aload_n X (pc := 22) (r := some (B 0)) dX12_in_22 rfl rfl ?_
              refine sp_getfield X (pc := 23) (c := 13) (i := 3) (t := 0) (a := (B 0)) (v := .int (nI n)) rfl hVm.r.o (by decide) rfl (congrArg Value.int hVm.cn) fl_Mo_115 dX12_in_23 ?_
              refine sp_icmp_ge X (pc := 26) (tgt := 73) dX12_in_26 (by decide) (fun hb26 => ?_) (fun hb26 => ?_)
              · have hjn : n ≤ j := sp_nge hb26 (by omega) (by omega)
                refine sp_iinc X (pc := 73) (v := (nI (s + 1))) (lv' := [(2, false, .int (nI (s + 1))), (0, false, va_rf (some (B 0))), (1, false, .int (nI f)), (3, false, .int (nI j))]) dX12_in_73 rfl ((sp_i1 s)) (by decide) rfl ?_
                refine sp_goto X (pc := 76) (tgt := 2) dX12_in_76 (by decide) ?_
                refine sp_pick X [1, 2, 0] (lv' := [(0, false, va_rf (some (B 0))), (1, false, .int (nI f)), (2, false, .int (nI (s + 1)))]) rfl ?_
                refine ihA _ (by omega) (s + 1) (by omega) (fun _ i z => ?_) (fun h2 i z => ?_) rfl
                · rcases Nat.eq_zero_or_pos s with q | q
                  · exact (hQ i (by have := z.1; omega)).1 q z
                  · exact hsa q i z
                · exact (hQ i (by have := z.1; omega)).2 (by omega) z
              · have hjn : j < n := sp_nlt hb26 (by omega)
                obtain ⟨n1, n2, n3, n4, n5, n6, n7⟩ := hMN.1 j hjn
                have h16 := (hW.2.2.2.2.2.1 j (by omega) hjn).2
                refine sp_aload_n X (pc := 29) (r := some (B 0)) dX12_in_29 rfl rfl ?_
                refine sp_getfield X (pc := 30) (c := 13) (i := 7) (t := 2) (a := (B 0)) (v := va_rf (some (B 7))) rfl hVm.r.o (by decide) rfl (congrArg va_rf hVm.f7) fl_Mo_23 dX12_in_30 ?_
                refine sp_iload_n X (pc := 33) (x := nI j) dX12_in_33 rfl rfl ?_
                refine sp_baload X (pc := 34) (a := (B 7)) rfl hVm.y7 (sp_in j hVm.l7 (by omega) (by decide)) dX12_in_34 ?_
                rw [show (m.aI (B 7) (nI j).toNatClampNeg) = (m.aI (B 7) j) from (congrArg _ (nI_clamp (n := j) (by omega)))]
                rw [show (m.aI (B 7) j) = (T.g j) from n4]
                refine sp_if_ne X (pc := 35) (tgt := 67) dX12_in_35 (by decide) (fun hb35 => ?_) (fun hb35 => ?_)
                · refine sp_iinc X (pc := 67) (v := (nI (j + 1))) (lv' := [(3, false, .int (nI (j + 1))), (0, false, va_rf (some (B 0))), (1, false, .int (nI f)), (2, false, .int (nI s))]) dX12_in_67 rfl ((sp_i1 j)) (by decide) rfl ?_
                  refine sp_goto X (pc := 70) (tgt := 21) dX12_in_70 (by decide) ?_
                  refine sp_pick X [1, 2, 3, 0] (lv' := [(0, false, va_rf (some (B 0))), (1, false, .int (nI f)), (2, false, .int (nI s)), (3, false, .int (nI (j + 1)))]) rfl ?_
                  exact ih _ (by omega) (j + 1) (by omega) (by omega) (fun i hi => by
                    rcases Nat.lt_or_ge i j with q | q
                    · exact hQ i q
                    · obtain rfl : i = j := by omega
                      refine ⟨fun z y => ?_, fun z y => ?_⟩
                      · first | exact hb35 y.2.1 | exact hof y.2.2.1 | exact hp59.eq hb62 y.2.2.2 | (exfalso; omega)
                      · first | exact hb35 y.2.1 | exact hof y.2.2.1 | exact hp59.eq hb62 y.2.2.2 | (exfalso; omega)) rfl
                · refine sp_aload_n X (pc := 38) (r := some (B 0)) dX12_in_38 rfl rfl ?_
                  refine sp_getfield X (pc := 39) (c := 13) (i := 8) (t := 2) (a := (B 0)) (v := va_rf (some (B 8))) rfl hVm.r.o (by decide) rfl (congrArg va_rf hVm.f8) fl_Mo_26 dX12_in_39 ?_
                  refine sp_iload_n X (pc := 42) (x := nI j) dX12_in_42 rfl rfl ?_
                  refine sp_iaload X (pc := 43) (a := (B 8)) rfl (Or.inl hVm.y8) (sp_in j hVm.l8 (by omega) (by decide)) dX12_in_43 ?_
                  rw [show (m.aI (B 8) (nI j).toNatClampNeg) = (m.aI (B 8) j) from (congrArg _ (nI_clamp (n := j) (by omega)))]
                  rw [show (m.aI (B 8) j) = (nI (T.o j)) from n5]
                  refine sp_iload_n X (pc := 44) (x := nI f) dX12_in_44 rfl rfl ?_
                  refine sp_icmp_ne X (pc := 45) (tgt := 67) dX12_in_45 (by decide) (fun hb45 => ?_) (fun hb45 => ?_)
                  · have hof : ¬ T.o j = f := fun z => hb45 (by rw [z])
                    refine sp_iinc X (pc := 67) (v := (nI (j + 1))) (lv' := [(3, false, .int (nI (j + 1))), (0, false, va_rf (some (B 0))), (1, false, .int (nI f)), (2, false, .int (nI s))]) dX12_in_67 rfl ((sp_i1 j)) (by decide) rfl ?_
                    refine sp_goto X (pc := 70) (tgt := 21) dX12_in_70 (by decide) ?_
                    refine sp_pick X [1, 2, 3, 0] (lv' := [(0, false, va_rf (some (B 0))), (1, false, .int (nI f)), (2, false, .int (nI s)), (3, false, .int (nI (j + 1)))]) rfl ?_
                    exact ih _ (by omega) (j + 1) (by omega) (by omega) (fun i hi => by
                      rcases Nat.lt_or_ge i j with q | q
                      · exact hQ i q
                      · obtain rfl : i = j := by omega
                        refine ⟨fun z y => ?_, fun z y => ?_⟩
                        · first | exact hb35 y.2.1 | exact hof y.2.2.1 | exact hp59.eq hb62 y.2.2.2 | (exfalso; omega)
                        · first | exact hb35 y.2.1 | exact hof y.2.2.1 | exact hp59.eq hb62 y.2.2.2 | (exfalso; omega)) rfl
                  · have hof : T.o j = f := sp_neq hb45 (by have := hW.lt hjn; omega) (by omega)
                    refine sp_aload_n X (pc := 48) (r := some (B 0)) dX12_in_48 rfl rfl ?_
                    refine sp_iload_n X (pc := 49) (x := nI j) dX12_in_49 rfl rfl ?_
                    refine sp_iload_n X (pc := 50) (x := nI s) dX12_in_50 rfl rfl ?_
                    refine sp_if_ne X (pc := 51) (tgt := 58) dX12_in_51 (by decide) (fun hb51 => ?_) (fun hb51 => ?_)
                    · have hs1 : s = 1 := by
                        have : s ≠ 0 := fun z => hb51 (by rw [z]; rfl)
                        omega
                      refine sp_iconst X (pc := 58) (v := 0) dX12_in_58 (by decide) ?_
                      refine sp_callV X (pc := 59) (mc := 0) (ms := 0) (b := (B 0)) (c := 13) (r := some (B 0)) (As := [.int (nI j), .int 0]) (rest := []) (c_Mo_isNamed l G _ hVm (u9 := T.w j) hjn n6 h16 n7) ok_Mo_isNamed rfl hVm.r.o (by decide) rfl lk_Mo_155 rfl rfl (Nat.zero_le _) (Nat.le_of_ble_eq_true rfl) (Nat.le_of_ble_eq_true rfl) (Nat.zero_le _) (Nat.zero_le _) dX12_in_59 (sp_kI fun v59 m59 hp59 => ?_)
                      obtain ⟨hp59, hp59m⟩ := hp59; replace hp59m := (hp59m).symm; subst hp59m
                      first | rw [propext sp_named1] at hp59 | rw [propext sp_named0] at hp59
                      refine sp_if_eq X (pc := 62) (tgt := 67) dX12_in_62 (by decide) (fun hb62 => ?_) (fun hb62 => ?_)
                      · refine sp_iinc X (pc := 67) (v := (nI (j + 1))) (lv' := [(3, false, .int (nI (j + 1))), (0, false, va_rf (some (B 0))), (1, false, .int (nI f)), (2, false, .int (nI s))]) dX12_in_67 rfl ((sp_i1 j)) (by decide) rfl ?_
                        refine sp_goto X (pc := 70) (tgt := 21) dX12_in_70 (by decide) ?_
                        refine sp_pick X [1, 2, 3, 0] (lv' := [(0, false, va_rf (some (B 0))), (1, false, .int (nI f)), (2, false, .int (nI s)), (3, false, .int (nI (j + 1)))]) rfl ?_
                        exact ih _ (by omega) (j + 1) (by omega) (by omega) (fun i hi => by
                          rcases Nat.lt_or_ge i j with q | q
                          · exact hQ i q
                          · obtain rfl : i = j := by omega
                            refine ⟨fun z y => ?_, fun z y => ?_⟩
                            · first | exact hb35 y.2.1 | exact hof y.2.2.1 | exact hp59.eq hb62 y.2.2.2 | (exfalso; omega)
                            · first | exact hb35 y.2.1 | exact hof y.2.2.1 | exact hp59.eq hb62 y.2.2.2 | (exfalso; omega)) rfl
                      · refine sp_iload_n X (pc := 65) (x := nI j) dX12_in_65 rfl rfl ?_
                        refine sp_ireturn X (pc := 66) dX12_in_66 rfl ⟨_, rfl, ?_⟩
                        first
                          | exact ⟨⟨some j, Or.inl ⟨j, rfl, ⟨hjn, hb35, hof, hp59.ne hb62⟩, fun i hi => (hQ i hi).1 hs0⟩, Or.inr ⟨j, rfl, rfl⟩⟩, rfl⟩
                          | exact ⟨⟨some j, Or.inr (Or.inl ⟨hsa (by omega), hR2 hs1, j, rfl, ⟨hjn, hb35, hof, hp59.ne hb62⟩, fun i hi => (hQ i hi).2 hs1⟩), Or.inr ⟨j, rfl, rfl⟩⟩, rfl⟩
                    · have hs0 : s = 0 := sp_neq (b := 0) hb51 (by omega) (by decide)
                      refine sp_iconst X (pc := 54) (v := 1) dX12_in_54 (by decide) ?_
                      refine sp_goto X (pc := 55) (tgt := 59) dX12_in_55 (by decide) ?_
                      refine sp_callV X (pc := 59) (mc := 0) (ms := 0) (b := (B 0)) (c := 13) (r := some (B 0)) (As := [.int (nI j), .int 1]) (rest := []) (c_Mo_isNamed l G _ hVm (u9 := T.w j) hjn n6 h16 n7) ok_Mo_isNamed rfl hVm.r.o (by decide) rfl lk_Mo_155 rfl rfl (Nat.zero_le _) (Nat.le_of_ble_eq_true rfl) (Nat.le_of_ble_eq_true rfl) (Nat.zero_le _) (Nat.zero_le _) dX12_in_59 (sp_kI fun v59 m59 hp59 => ?_)
                      obtain ⟨hp59, hp59m⟩ := hp59; replace hp59m := (hp59m).symm; subst hp59m
                      first | rw [propext sp_named1] at hp59 | rw [propext sp_named0] at hp59
                      refine sp_if_eq X (pc := 62) (tgt := 67) dX12_in_62 (by decide) (fun hb62 => ?_) (fun hb62 => ?_)
                      · refine sp_iinc X (pc := 67) (v := (nI (j + 1))) (lv' := [(3, false, .int (nI (j + 1))), (0, false, va_rf (some (B 0))), (1, false, .int (nI f)), (2, false, .int (nI s))]) dX12_in_67 rfl ((sp_i1 j)) (by decide) rfl ?_
                        refine sp_goto X (pc := 70) (tgt := 21) dX12_in_70 (by decide) ?_
                        refine sp_pick X [1, 2, 3, 0] (lv' := [(0, false, va_rf (some (B 0))), (1, false, .int (nI f)), (2, false, .int (nI s)), (3, false, .int (nI (j + 1)))]) rfl ?_
                        exact ih _ (by omega) (j + 1) (by omega) (by omega) (fun i hi => by
                          rcases Nat.lt_or_ge i j with q | q
                          · exact hQ i q
                          · obtain rfl : i = j := by omega
                            refine ⟨fun z y => ?_, fun z y => ?_⟩
                            · first | exact hb35 y.2.1 | exact hof y.2.2.1 | exact hp59.eq hb62 y.2.2.2 | (exfalso; omega)
                            · first | exact hb35 y.2.1 | exact hof y.2.2.1 | exact hp59.eq hb62 y.2.2.2 | (exfalso; omega)) rfl
                      · refine sp_iload_n X (pc := 65) (x := nI j) dX12_in_65 rfl rfl ?_
                        refine sp_ireturn X (pc := 66) dX12_in_66 rfl ⟨_, rfl, ?_⟩
                        first
                          | exact ⟨⟨some j, Or.inl ⟨j, rfl, ⟨hjn, hb35, hof, hp59.ne hb62⟩, fun i hi => (hQ i hi).1 hs0⟩, Or.inr ⟨j, rfl, rfl⟩⟩, rfl⟩
                          | exact ⟨⟨some j, Or.inr (Or.inl ⟨hsa (by omega), hR2 hs1, j, rfl, ⟨hjn, hb35, hof, hp59.ne hb62⟩, fun i hi => (hQ i hi).2 hs1⟩), Or.inr ⟨j, rfl, rfl⟩⟩, rfl⟩
          refine sp_pick X [1, 2, 3, 0] (lv' := [(0, false, va_rf (some (B 0))), (1, false, .int (nI f)), (2, false, .int (nI s)), (3, false, .int 1)]) rfl ?_
          exact loop21 _ 1 (by omega) (by omega) (fun i hi => by
            obtain rfl : i = 0 := by omega
            exact ⟨fun _ => h0a, fun _ => h0b⟩) rfl
      · refine sp_iconst X (pc := 11) (v := 2) dX12_in_11 (by decide) ?_
        refine sp_goto X (pc := 12) (tgt := 16) dX12_in_12 (by decide) ?_
        refine sp_icmp_ge X (pc := 16) (tgt := 79) dX12_in_16 (by decide) (fun hb16 => ?_) (fun hb16 => ?_)
        · have hs1 : (1 ≤ s ∧ sp_hr R 2 = 0) ∨ (2 ≤ s ∧ ¬ sp_hr R 2 = 0) := by
            first | exact Or.inr ⟨sp_nge (a := s) (b := 2) hb16 (by omega) (by omega), hb8⟩ | exact Or.inl ⟨sp_nge (a := s) (b := 1) hb16 (by omega) (by omega), hb8⟩
          refine sp_iconst X (pc := 79) (v := (-1)) dX12_in_79 (by decide) ?_
          refine sp_ireturn X (pc := 80) dX12_in_80 rfl ⟨_, rfl, ?_⟩
          first
            | exact ⟨⟨none, Or.inr (Or.inr ⟨hsa (by omega), Or.inl hb8, rfl⟩), Or.inl ⟨rfl, rfl⟩⟩, rfl⟩
            | (have h2 : 2 ≤ s := hs1.elim (fun z => absurd z.2 hb8) (fun z => z.1)
               exact ⟨⟨none, Or.inr (Or.inr ⟨hsa (by omega), Or.inr (hlk h2), rfl⟩), Or.inl ⟨rfl, rfl⟩⟩, rfl⟩)
        · have hs1 : s < 2 ∧ (s = 1 → ¬ sp_hr R 2 = 0) := by
            first | exact ⟨sp_nlt (b := 2) hb16 (by omega), fun _ => hb8⟩ | exact ⟨Nat.lt_trans (sp_nlt (b := 1) hb16 (by omega)) (by omega), fun z => absurd (sp_nlt (b := 1) hb16 (by omega)) (by omega)⟩
          obtain ⟨hs2, hR2⟩ := hs1
          refine sp_iconst X (pc := 19) (v := 1) dX12_in_19 (by decide) ?_
          refine sp_istore_n X (pc := 20) (lv' := [(3, false, .int 1), (0, false, va_rf (some (B 0))), (1, false, .int (nI f)), (2, false, .int (nI s))]) dX12_in_20 rfl (by decide) rfl ?_
          have loop21 : ∀ (dz : Nat) (j : Nat), 1 ≤ j → j ≤ 201 → (∀ i, i < j → (s = 0 → ¬ pu_sa T n f (sp_wu m B ws) i) ∧ (s = 1 → ¬ pu_lk T n f (sp_wu m B ws) i)) → n - j = dz → w 0 0 m 21 [(0, false, va_rf (some (B 0))), (1, false, .int (nI f)), (2, false, .int (nI s)), (3, false, .int (nI j))] [] := by
            intro dz
            induction dz using Nat.strongRecOn with
            | ind dz ih =>
              intro j hj hj2 hQ hdz
              refine sp_iload_n X (pc := 21) (x := nI j) dX12_in_21 rfl rfl ?_
              refine sp_aload_n X (pc := 22) (r := some (B 0)) dX12_in_22 rfl rfl ?_
              refine sp_getfield X (pc := 23) (c := 13) (i := 3) (t := 0) (a := (B 0)) (v := .int (nI n)) rfl hVm.r.o (by decide) rfl (congrArg Value.int hVm.cn) fl_Mo_115 dX12_in_23 ?_
              refine sp_icmp_ge X (pc := 26) (tgt := 73) dX12_in_26 (by decide) (fun hb26 => ?_) (fun hb26 => ?_)
              · have hjn : n ≤ j := sp_nge hb26 (by omega) (by omega)
                refine sp_iinc X (pc := 73) (v := (nI (s + 1))) (lv' := [(2, false, .int (nI (s + 1))), (0, false, va_rf (some (B 0))), (1, false, .int (nI f)), (3, false, .int (nI j))]) dX12_in_73 rfl ((sp_i1 s)) (by decide) rfl ?_
                refine sp_goto X (pc := 76) (tgt := 2) dX12_in_76 (by decide) ?_
                refine sp_pick X [1, 2, 0] (lv' := [(0, false, va_rf (some (B 0))), (1, false, .int (nI f)), (2, false, .int (nI (s + 1)))]) rfl ?_
                refine ihA _ (by omega) (s + 1) (by omega) (fun _ i z => ?_) (fun h2 i z => ?_) rfl
                · rcases Nat.eq_zero_or_pos s with q | q
                  · exact (hQ i (by have := z.1; omega)).1 q z
                  · exact hsa q i z
                · exact (hQ i (by have := z.1; omega)).2 (by omega) z
              · have hjn : j < n := sp_nlt hb26 (by omega)
                obtain ⟨n1, n2, n3, n4, n5, n6, n7⟩ := hMN.1 j hjn
                have h16 := (hW.2.2.2.2.2.1 j (by omega) hjn).2
                refine sp_aload_n X (pc := 29) (r := some (B 0)) dX12_in_29 rfl rfl ?_
                refine sp_getfield X (pc := 30) (c := 13) (i := 7) (t := 2) (a := (B 0)) (v := va_rf (some (B 7))) rfl hVm.r.o (by decide) rfl (congrArg va_rf hVm.f7) fl_Mo_23 dX12_in_30 ?_
                refine sp_iload_n X (pc := 33) (x := nI j) dX12_in_33 rfl rfl ?_
                refine sp_baload X (pc := 34) (a := (B 7)) rfl hVm.y7 (sp_in j hVm.l7 (by omega) (by decide)) dX12_in_34 ?_
                rw [show (m.aI (B 7) (nI j).toNatClampNeg) = (m.aI (B 7) j) from (congrArg _ (nI_clamp (n := j) (by omega)))]
                rw [show (m.aI (B 7) j) = (T.g j) from n4]
                refine sp_if_ne X (pc := 35) (tgt := 67) dX12_in_35 (by decide) (fun hb35 => ?_) (fun hb35 => ?_)
                · refine sp_iinc X (pc := 67) (v := (nI (j + 1))) (lv' := [(3, false, .int (nI (j + 1))), (0, false, va_rf (some (B 0))), (1, false, .int (nI f)), (2, false, .int (nI s))]) dX12_in_67 rfl ((sp_i1 j)) (by decide) rfl ?_
                  refine sp_goto X (pc := 70) (tgt := 21) dX12_in_70 (by decide) ?_
                  refine sp_pick X [1, 2, 3, 0] (lv' := [(0, false, va_rf (some (B 0))), (1, false, .int (nI f)), (2, false, .int (nI s)), (3, false, .int (nI (j + 1)))]) rfl ?_
                  exact ih _ (by omega) (j + 1) (by omega) (by omega) (fun i hi => by
                    rcases Nat.lt_or_ge i j with q | q
                    · exact hQ i q
                    · obtain rfl : i = j := by omega
                      refine ⟨fun z y => ?_, fun z y => ?_⟩
                      · first | exact hb35 y.2.1 | exact hof y.2.2.1 | exact hp59.eq hb62 y.2.2.2 | (exfalso; omega)
                      · first | exact hb35 y.2.1 | exact hof y.2.2.1 | exact hp59.eq hb62 y.2.2.2 | (exfalso; omega)) rfl
                · refine sp_aload_n X (pc := 38) (r := some (B 0)) dX12_in_38 rfl rfl ?_
                  refine sp_getfield X (pc := 39) (c := 13) (i := 8) (t := 2) (a := (B 0)) (v := va_rf (some (B 8))) rfl hVm.r.o (by decide) rfl (congrArg va_rf hVm.f8) fl_Mo_26 dX12_in_39 ?_
                  refine sp_iload_n X (pc := 42) (x := nI j) dX12_in_42 rfl rfl ?_
                  refine sp_iaload X (pc := 43) (a := (B 8)) rfl (Or.inl hVm.y8) (sp_in j hVm.l8 (by omega) (by decide)) dX12_in_43 ?_
                  rw [show (m.aI (B 8) (nI j).toNatClampNeg) = (m.aI (B 8) j) from (congrArg _ (nI_clamp (n := j) (by omega)))]
                  rw [show (m.aI (B 8) j) = (nI (T.o j)) from n5]
                  refine sp_iload_n X (pc := 44) (x := nI f) dX12_in_44 rfl rfl ?_
                  refine sp_icmp_ne X (pc := 45) (tgt := 67) dX12_in_45 (by decide) (fun hb45 => ?_) (fun hb45 => ?_)
                  · have hof : ¬ T.o j = f := fun z => hb45 (by rw [z])
                    refine sp_iinc X (pc := 67) (v := (nI (j + 1))) (lv' := [(3, false, .int (nI (j + 1))), (0, false, va_rf (some (B 0))), (1, false, .int (nI f)), (2, false, .int (nI s))]) dX12_in_67 rfl ((sp_i1 j)) (by decide) rfl ?_
                    refine sp_goto X (pc := 70) (tgt := 21) dX12_in_70 (by decide) ?_
                    refine sp_pick X [1, 2, 3, 0] (lv' := [(0, false, va_rf (some (B 0))), (1, false, .int (nI f)), (2, false, .int (nI s)), (3, false, .int (nI (j + 1)))]) rfl ?_
                    exact ih _ (by omega) (j + 1) (by omega) (by omega) (fun i hi => by
                      rcases Nat.lt_or_ge i j with q | q
                      · exact hQ i q
                      · obtain rfl : i = j := by omega
                        refine ⟨fun z y => ?_, fun z y => ?_⟩
                        · first | exact hb35 y.2.1 | exact hof y.2.2.1 | exact hp59.eq hb62 y.2.2.2 | (exfalso; omega)
                        · first | exact hb35 y.2.1 | exact hof y.2.2.1 | exact hp59.eq hb62 y.2.2.2 | (exfalso; omega)) rfl
                  · have hof : T.o j = f := sp_neq hb45 (by have := hW.lt hjn; omega) (by omega)
                    refine sp_aload_n X (pc := 48) (r := some (B 0)) dX12_in_48 rfl rfl ?_
                    refine sp_iload_n X (pc := 49) (x := nI j) dX12_in_49 rfl rfl ?_
                    refine sp_iload_n X (pc := 50) (x := nI s) dX12_in_50 rfl rfl ?_
                    refine sp_if_ne X (pc := 51) (tgt := 58) dX12_in_51 (by decide) (fun hb51 => ?_) (fun hb51 => ?_)
                    · have hs1 : s = 1 := by
                        have : s ≠ 0 := fun z => hb51 (by rw [z]; rfl)
                        omega
                      refine sp_iconst X (pc := 58) (v := 0) dX12_in_58 (by decide) ?_
                      refine sp_callV X (pc := 59) (mc := 0) (ms := 0) (b := (B 0)) (c := 13) (r := some (B 0)) (As := [.int (nI j), .int 0]) (rest := []) (c_Mo_isNamed l G _ hVm (u9 := T.w j) hjn n6 h16 n7) ok_Mo_isNamed rfl hVm.r.o (by decide) rfl lk_Mo_155 rfl rfl (Nat.zero_le _) (Nat.le_of_ble_eq_true rfl) (Nat.le_of_ble_eq_true rfl) (Nat.zero_le _) (Nat.zero_le _) dX12_in_59 (sp_kI fun v59 m59 hp59 => ?_)
                      obtain ⟨hp59, hp59m⟩ := hp59; replace hp59m := (hp59m).symm; subst hp59m
                      first | rw [propext sp_named1] at hp59 | rw [propext sp_named0] at hp59
                      refine sp_if_eq X (pc := 62) (tgt := 67) dX12_in_62 (by decide) (fun hb62 => ?_) (fun hb62 => ?_)
                      · refine sp_iinc X (pc := 67) (v := (nI (j + 1))) (lv' := [(3, false, .int (nI (j + 1))), (0, false, va_rf (some (B 0))), (1, false, .int (nI f)), (2, false, .int (nI s))]) dX12_in_67 rfl ((sp_i1 j)) (by decide) rfl ?_
                        refine sp_goto X (pc := 70) (tgt := 21) dX12_in_70 (by decide) ?_
                        refine sp_pick X [1, 2, 3, 0] (lv' := [(0, false, va_rf (some (B 0))), (1, false, .int (nI f)), (2, false, .int (nI s)), (3, false, .int (nI (j + 1)))]) rfl ?_
                        exact ih _ (by omega) (j + 1) (by omega) (by omega) (fun i hi => by
                          rcases Nat.lt_or_ge i j with q | q
                          · exact hQ i q
                          · obtain rfl : i = j := by omega
                            refine ⟨fun z y => ?_, fun z y => ?_⟩
                            · first | exact hb35 y.2.1 | exact hof y.2.2.1 | exact hp59.eq hb62 y.2.2.2 | (exfalso; omega)
                            · first | exact hb35 y.2.1 | exact hof y.2.2.1 | exact hp59.eq hb62 y.2.2.2 | (exfalso; omega)) rfl
                      · refine sp_iload_n X (pc := 65) (x := nI j) dX12_in_65 rfl rfl ?_
                        refine sp_ireturn X (pc := 66) dX12_in_66 rfl ⟨_, rfl, ?_⟩
                        first
                          | exact ⟨⟨some j, Or.inl ⟨j, rfl, ⟨hjn, hb35, hof, hp59.ne hb62⟩, fun i hi => (hQ i hi).1 hs0⟩, Or.inr ⟨j, rfl, rfl⟩⟩, rfl⟩
                          | exact ⟨⟨some j, Or.inr (Or.inl ⟨hsa (by omega), hR2 hs1, j, rfl, ⟨hjn, hb35, hof, hp59.ne hb62⟩, fun i hi => (hQ i hi).2 hs1⟩), Or.inr ⟨j, rfl, rfl⟩⟩, rfl⟩
                    · have hs0 : s = 0 := sp_neq (b := 0) hb51 (by omega) (by decide)
                      refine sp_iconst X (pc := 54) (v := 1) dX12_in_54 (by decide) ?_
                      refine sp_goto X (pc := 55) (tgt := 59) dX12_in_55 (by decide) ?_
                      refine sp_callV X (pc := 59) (mc := 0) (ms := 0) (b := (B 0)) (c := 13) (r := some (B 0)) (As := [.int (nI j), .int 1]) (rest := []) (c_Mo_isNamed l G _ hVm (u9 := T.w j) hjn n6 h16 n7) ok_Mo_isNamed rfl hVm.r.o (by decide) rfl lk_Mo_155 rfl rfl (Nat.zero_le _) (Nat.le_of_ble_eq_true rfl) (Nat.le_of_ble_eq_true rfl) (Nat.zero_le _) (Nat.zero_le _) dX12_in_59 (sp_kI fun v59 m59 hp59 => ?_)
                      obtain ⟨hp59, hp59m⟩ := hp59; replace hp59m := (hp59m).symm; subst hp59m
                      first | rw [propext sp_named1] at hp59 | rw [propext sp_named0] at hp59
                      refine sp_if_eq X (pc := 62) (tgt := 67) dX12_in_62 (by decide) (fun hb62 => ?_) (fun hb62 => ?_)
                      · refine sp_iinc X (pc := 67) (v := (nI (j + 1))) (lv' := [(3, false, .int (nI (j + 1))), (0, false, va_rf (some (B 0))), (1, false, .int (nI f)), (2, false, .int (nI s))]) dX12_in_67 rfl ((sp_i1 j)) (by decide) rfl ?_
                        refine sp_goto X (pc := 70) (tgt := 21) dX12_in_70 (by decide) ?_
                        refine sp_pick X [1, 2, 3, 0] (lv' := [(0, false, va_rf (some (B 0))), (1, false, .int (nI f)), (2, false, .int (nI s)), (3, false, .int (nI (j + 1)))]) rfl ?_
                        exact ih _ (by omega) (j + 1) (by omega) (by omega) (fun i hi => by
                          rcases Nat.lt_or_ge i j with q | q
                          · exact hQ i q
                          · obtain rfl : i = j := by omega
                            refine ⟨fun z y => ?_, fun z y => ?_⟩
                            · first | exact hb35 y.2.1 | exact hof y.2.2.1 | exact hp59.eq hb62 y.2.2.2 | (exfalso; omega)
                            · first | exact hb35 y.2.1 | exact hof y.2.2.1 | exact hp59.eq hb62 y.2.2.2 | (exfalso; omega)) rfl
                      · refine sp_iload_n X (pc := 65) (x := nI j) dX12_in_65 rfl rfl ?_
                        refine sp_ireturn X (pc := 66) dX12_in_66 rfl ⟨_, rfl, ?_⟩
                        first
                          | exact ⟨⟨some j, Or.inl ⟨j, rfl, ⟨hjn, hb35, hof, hp59.ne hb62⟩, fun i hi => (hQ i hi).1 hs0⟩, Or.inr ⟨j, rfl, rfl⟩⟩, rfl⟩
                          | exact ⟨⟨some j, Or.inr (Or.inl ⟨hsa (by omega), hR2 hs1, j, rfl, ⟨hjn, hb35, hof, hp59.ne hb62⟩, fun i hi => (hQ i hi).2 hs1⟩), Or.inr ⟨j, rfl, rfl⟩⟩, rfl⟩
          refine sp_pick X [1, 2, 3, 0] (lv' := [(0, false, va_rf (some (B 0))), (1, false, .int (nI f)), (2, false, .int (nI s)), (3, false, .int 1)]) rfl ?_
          exact loop21 _ 1 (by omega) (by omega) (fun i hi => by
            obtain rfl : i = 0 := by omega
            exact ⟨fun _ => h0a, fun _ => h0b⟩) rfl
  refine sp_pick X [1, 2, 0] (lv' := [(0, false, va_rf (some (B 0))), (1, false, .int (nI f)), (2, false, .int 0)]) rfl ?_
  exact loop2 _ 0 (by omega) (fun z => absurd z (by decide)) (fun z => absurd z (by decide)) rfl
set_option maxRecDepth 20000 in
theorem c_Mo_isInside (l : Launch) (G : sp_G) (m : sp_M) {B : Nat → Nat} {m0 : sp_M} {D : Nat → Int32} {R : Int32} {l0 l1 : Int64} {d n b p t e L ws : Nat} {vq vm vl : Int32} {vs : Int64} {vA vE : Nat → Int64} (hVm : sp_V B m0 m D R l0 l1 d n b p t e L ws vq vm vl vs vA vE)  {T : pu_N} {nb0 nt0 : Nat} (hMN : sp_mN m B n L T) (hW : pu_W n nb0 nt0 T) {j : Nat} (hj : j < n) : sp_C l G M_Mo_isInside 0 0 [.ref (B 0), .int (nI j)] m (sp_oI fun v m' => sp_bo v (pu_ins T.o j) ∧ m' = m) := by
  refine sp_enter (lv0 := [(0, false, va_rf (some (B 0))), (1, false, .int (nI j))]) "SafePathsModel" false rfl (by decide) (fun h => by cases h) (Nat.le_of_ble_eq_true rfl) rfl ?_
  intro w X
  have bd := hVm.hd
  have bn := hVm.hn
  have bb := hVm.hb
  have bp := hVm.hp
  have bt := hVm.ht
  have be := hVm.he
  have bw := hVm.hw
  have bL := hVm.hL
  refine sp_iload_n X (pc := 0) (x := nI j) dX12_isInside_0 rfl rfl ?_
  refine sp_istore_n X (pc := 1) (lv' := [(2, false, .int (nI j)), (0, false, va_rf (some (B 0))), (1, false, .int (nI j))]) dX12_isInside_1 rfl (by decide) rfl ?_
  have loop2 : ∀ (dz : Nat) (x : Nat), x < n → (pu_ins T.o j ↔ pu_ins T.o x) → x = dz → w 0 0 m 2 [(0, false, va_rf (some (B 0))), (2, false, .int (nI x))] [] := by
    intro dz
    induction dz using Nat.strongRecOn with
    | ind dz ih =>
      intro x hx hi hdz
      refine sp_iload_n X (pc := 2) (x := nI x) dX12_isInside_2 rfl rfl ?_
      refine sp_iconst X (pc := 3) (v := 1) dX12_isInside_3 (by decide) ?_
      refine sp_icmp_le X (pc := 4) (tgt := 17) dX12_isInside_4 (by decide) (fun hb4 => ?_) (fun hb4 => ?_)
      · have hx1 : x ≤ 1 := (nI_leI (b := 1) (by omega) (by decide)).mp hb4
        refine sp_iload_n X (pc := 17) (x := nI x) dX12_isInside_17 rfl rfl ?_
        refine sp_iconst X (pc := 18) (v := 1) dX12_isInside_18 (by decide) ?_
        refine sp_icmp_ne X (pc := 19) (tgt := 26) dX12_isInside_19 (by decide) (fun hb19 => ?_) (fun hb19 => ?_)
        · refine sp_iconst X (pc := 26) (v := 0) dX12_isInside_26 (by decide) ?_
          refine sp_ireturn X (pc := 27) dX12_isInside_27 rfl ⟨_, rfl, ?_⟩
          first
            | (have hx9 : x = 1 := sp_neq (b := 1) hb19 (by omega) (by decide)
               exact ⟨sp_bo.t (hi.mpr (by rw [hx9]; exact pu_ins.one _)), rfl⟩)
            | (have hx9 : x = 0 := by
                 have : x ≠ 1 := fun z => hb19 (by rw [z]; rfl)
                 omega
               exact ⟨sp_bo.f (fun z => pu_ins.zero hW.2.1 (by have := hi.mp z; rw [hx9] at this; exact this)), rfl⟩)
        · refine sp_iconst X (pc := 22) (v := 1) dX12_isInside_22 (by decide) ?_
          refine sp_goto X (pc := 23) (tgt := 27) dX12_isInside_23 (by decide) ?_
          refine sp_ireturn X (pc := 27) dX12_isInside_27 rfl ⟨_, rfl, ?_⟩
          first
            | (have hx9 : x = 1 := sp_neq (b := 1) hb19 (by omega) (by decide)
               exact ⟨sp_bo.t (hi.mpr (by rw [hx9]; exact pu_ins.one _)), rfl⟩)
            | (have hx9 : x = 0 := by
                 have : x ≠ 1 := fun z => hb19 (by rw [z]; rfl)
                 omega
               exact ⟨sp_bo.f (fun z => pu_ins.zero hW.2.1 (by have := hi.mp z; rw [hx9] at this; exact this)), rfl⟩)
      · have hx1 : 1 < x := sp_nlt (b := x) (a := 1) hb4 (by omega)
        have n5 := (hMN.1 x hx).2.2.2.2.1
        have hox := hW.2.2.1 x (by omega) hx
        refine sp_aload_n X (pc := 7) (r := some (B 0)) dX12_isInside_7 rfl rfl ?_
        refine sp_getfield X (pc := 8) (c := 13) (i := 8) (t := 2) (a := (B 0)) (v := va_rf (some (B 8))) rfl hVm.r.o (by decide) rfl (congrArg va_rf hVm.f8) fl_Mo_26 dX12_isInside_8 ?_
        refine sp_iload_n X (pc := 11) (x := nI x) dX12_isInside_11 rfl rfl ?_
        refine sp_iaload X (pc := 12) (a := (B 8)) rfl (Or.inl hVm.y8) (sp_in x hVm.l8 (by omega) (by decide)) dX12_isInside_12 ?_
        rw [show (m.aI (B 8) (nI x).toNatClampNeg) = (m.aI (B 8) x) from (congrArg _ (nI_clamp (n := x) (by omega)))]
        rw [show (m.aI (B 8) x) = (nI (T.o x)) from n5]
        refine sp_istore_n X (pc := 13) (lv' := [(2, false, .int (nI (T.o x))), (0, false, va_rf (some (B 0)))]) dX12_isInside_13 rfl (by decide) rfl ?_
        refine sp_goto X (pc := 14) (tgt := 2) dX12_isInside_14 (by decide) ?_
        refine sp_pick X [1, 0] (lv' := [(0, false, va_rf (some (B 0))), (2, false, .int (nI (T.o x)))]) rfl ?_
        exact ih _ (by omega) (T.o x) (by omega) (hi.trans (pu_ins.step (by omega))) rfl
  refine sp_pick X [1, 0] (lv' := [(0, false, va_rf (some (B 0))), (2, false, .int (nI j))]) rfl ?_
  exact loop2 _ j hj Iff.rfl rfl
set_option maxRecDepth 20000 in
theorem c_Mo_startOf (l : Launch) (G : sp_G) (m : sp_M) {B : Nat → Nat} {m0 : sp_M} {D : Nat → Int32} {R : Int32} {l0 l1 : Int64} {d n b p t e L ws : Nat} {vq vm vl : Int32} {vs : Int64} {vA vE : Nat → Int64} (hVm : sp_V B m0 m D R l0 l1 d n b p t e L ws vq vm vl vs vA vE) {j : Nat} {x : Int32} {TT : Nat → List Int32} (hj : j < t) (hMT : sp_mT m B t TT) (hTl : pu_Tt t TT) : sp_C l G M_Mo_startOf 0 0 [.ref (B 0), .int (nI j), .int x] m (sp_oI fun v m' => ((pu_tf R TT j ∧ v = 0) ∨ (¬ pu_tf R TT j ∧ v = x)) ∧ m' = m) := by
  refine sp_enter (lv0 := [(0, false, va_rf (some (B 0))), (1, false, .int (nI j)), (2, false, .int x)]) "SafePathsModel" false rfl (by decide) (fun h => by cases h) (Nat.le_of_ble_eq_true rfl) rfl ?_
  intro w X
  have bd := hVm.hd
  have bn := hVm.hn
  have bb := hVm.hb
  have bp := hVm.hp
  have bt := hVm.ht
  have be := hVm.he
  have bw := hVm.hw
  have bL := hVm.hL
  refine sp_aload_n X (pc := 0) (r := some (B 0)) dX12_startOf_0 rfl rfl ?_
  refine sp_aload_n X (pc := 1) (r := some (B 0)) dX12_startOf_1 rfl rfl ?_
  refine sp_getfield X (pc := 2) (c := 13) (i := 23) (t := 2) (a := (B 0)) (v := va_rf (some (B 23))) rfl hVm.r.o (by decide) rfl (congrArg va_rf hVm.f23) fl_Mo_60 dX12_startOf_2 ?_
  refine sp_bipush X (pc := 5) (v := 40) dX12_startOf_5 (by decide) ?_
  refine sp_iload_n X (pc := 7) (x := nI j) dX12_startOf_7 rfl rfl ?_
  refine sp_imul X (pc := 8) dX12_startOf_8 ?_
  rw [show (40 * (nI j)) = (nI (40 * j)) from (sp_mul 40 j)]
  refine sp_iaload X (pc := 9) (a := (B 23)) rfl (Or.inl hVm.y23) (sp_in (40 * j) hVm.l23 (by omega) (by decide)) dX12_startOf_9 ?_
  rw [show (m.aI (B 23) (nI (40 * j)).toNatClampNeg) = (m.aI (B 23) (40 * j)) from (congrArg _ (nI_clamp (n := (40 * j)) (by omega)))]
  rw [show (m.aI (B 23) (40 * j)) = ((TT j).getD 0 0) from ((hMT j hj).2 0 (by have := hTl j hj; omega))]
  refine sp_callV X (pc := 10) (mc := 0) (ms := 0) (b := (B 0)) (c := 13) (r := some (B 0)) (As := [.int ((TT j).getD 0 0)]) (rest := []) (c_Mo_isParting l G _ hVm) ok_Mo_isParting rfl hVm.r.o (by decide) rfl lk_Mo_125 rfl rfl (Nat.zero_le _) (Nat.le_of_ble_eq_true rfl) (Nat.le_of_ble_eq_true rfl) (Nat.zero_le _) (Nat.zero_le _) dX12_startOf_10 (sp_kI fun v10 m10 hp10 => ?_)
  obtain ⟨hp10v, hp10⟩ := hp10; replace hp10 := (hp10).symm; subst hp10; replace hp10v := (hp10v).symm; subst hp10v
  refine sp_if_eq X (pc := 13) (tgt := 20) dX12_startOf_13 (by decide) (fun hb13 => ?_) (fun hb13 => ?_)
  · refine sp_iload_n X (pc := 20) (x := x) dX12_startOf_20 rfl rfl ?_
    refine sp_ireturn X (pc := 21) dX12_startOf_21 rfl ⟨_, rfl, ?_⟩
    first | exact ⟨Or.inl ⟨hb13, rfl⟩, rfl⟩ | exact ⟨Or.inr ⟨fun z => z hb13, rfl⟩, rfl⟩
  · refine sp_iconst X (pc := 16) (v := 0) dX12_startOf_16 (by decide) ?_
    refine sp_goto X (pc := 17) (tgt := 21) dX12_startOf_17 (by decide) ?_
    refine sp_ireturn X (pc := 21) dX12_startOf_21 rfl ⟨_, rfl, ?_⟩
    first | exact ⟨Or.inl ⟨hb13, rfl⟩, rfl⟩ | exact ⟨Or.inr ⟨fun z => z hb13, rfl⟩, rfl⟩
set_option maxRecDepth 20000 in
theorem c_Mo_isThere (l : Launch) (G : sp_G) (m : sp_M) {B : Nat → Nat} {m0 : sp_M} {D : Nat → Int32} {R : Int32} {l0 l1 : Int64} {d n b p t e L ws : Nat} {vq vm vl : Int32} {vs : Int64} {vA vE : Nat → Int64} (hVm : sp_V B m0 m D R l0 l1 d n b p t e L ws vq vm vl vs vA vE) {j : Nat} {x s9 : Int32} (hj : j < n) (hs9 : m.aI (B 5) j = s9) : sp_C l G M_Mo_isThere 0 0 [.ref (B 0), .int (nI j), .int x] m (sp_oI fun v m' => sp_bo v (x = 0 ∧ ¬ s9 = 0) ∧ m' = m) := by
  refine sp_enter (lv0 := [(0, false, va_rf (some (B 0))), (1, false, .int (nI j)), (2, false, .int x)]) "SafePathsModel" false rfl (by decide) (fun h => by cases h) (Nat.le_of_ble_eq_true rfl) rfl ?_
  intro w X
  have bd := hVm.hd
  have bn := hVm.hn
  have bb := hVm.hb
  have bp := hVm.hp
  have bt := hVm.ht
  have be := hVm.he
  have bw := hVm.hw
  have bL := hVm.hL
  refine sp_iload_n X (pc := 0) (x := x) dX12_isThere_0 rfl rfl ?_
  refine sp_if_ne X (pc := 1) (tgt := 17) dX12_isThere_1 (by decide) (fun hb1 => ?_) (fun hb1 => ?_)
  · refine sp_iconst X (pc := 17) (v := 0) dX12_isThere_17 (by decide) ?_
    refine sp_ireturn X (pc := 18) dX12_isThere_18 rfl ⟨_, rfl, ?_⟩
    first | exact ⟨sp_bo.t ⟨hb1, hb10⟩, rfl⟩ | exact ⟨sp_bo.f (fun z => hb1 z.1), rfl⟩ | exact ⟨sp_bo.f (fun z => z.2 hb10), rfl⟩
  · refine sp_aload_n X (pc := 4) (r := some (B 0)) dX12_isThere_4 rfl rfl ?_
    refine sp_getfield X (pc := 5) (c := 13) (i := 5) (t := 2) (a := (B 0)) (v := va_rf (some (B 5))) rfl hVm.r.o (by decide) rfl (congrArg va_rf hVm.f5) fl_Mo_16 dX12_isThere_5 ?_
    refine sp_iload_n X (pc := 8) (x := nI j) dX12_isThere_8 rfl rfl ?_
    refine sp_baload X (pc := 9) (a := (B 5)) rfl hVm.y5 (sp_in j hVm.l5 (by omega) (by decide)) dX12_isThere_9 ?_
    rw [show (m.aI (B 5) (nI j).toNatClampNeg) = (m.aI (B 5) j) from (congrArg _ (nI_clamp (n := j) (by omega)))]
    rw [show (m.aI (B 5) j) = s9 from hs9]
    refine sp_if_eq X (pc := 10) (tgt := 17) dX12_isThere_10 (by decide) (fun hb10 => ?_) (fun hb10 => ?_)
    · refine sp_iconst X (pc := 17) (v := 0) dX12_isThere_17 (by decide) ?_
      refine sp_ireturn X (pc := 18) dX12_isThere_18 rfl ⟨_, rfl, ?_⟩
      first | exact ⟨sp_bo.t ⟨hb1, hb10⟩, rfl⟩ | exact ⟨sp_bo.f (fun z => hb1 z.1), rfl⟩ | exact ⟨sp_bo.f (fun z => z.2 hb10), rfl⟩
    · refine sp_iconst X (pc := 13) (v := 1) dX12_isThere_13 (by decide) ?_
      refine sp_goto X (pc := 14) (tgt := 18) dX12_isThere_14 (by decide) ?_
      refine sp_ireturn X (pc := 18) dX12_isThere_18 rfl ⟨_, rfl, ?_⟩
      first | exact ⟨sp_bo.t ⟨hb1, hb10⟩, rfl⟩ | exact ⟨sp_bo.f (fun z => hb1 z.1), rfl⟩ | exact ⟨sp_bo.f (fun z => z.2 hb10), rfl⟩
