
def sp_mro : Nat → Nat × Nat × Nat
  | 0 => (1, 20, 160)
  | 1 => (4, 20, 200)
  | 2 => (5, 22, 200)
  | 3 => (6, 22, 200)
  | 4 => (7, 22, 200)
  | 5 => (8, 20, 200)
  | 6 => (9, 20, 200)
  | 7 => (10, 20, 200)
  | 8 => (11, 20, 3200)
  | 9 => (12, 20, 200)
  | 10 => (15, 21, 204)
  | 11 => (16, 20, 204)
  | 12 => (18, 20, 60)
  | 13 => (19, 20, 480)
  | 14 => (20, 20, 7680)
  | 15 => (22, 20, 40)
  | 16 => (23, 20, 1600)
  | 17 => (25, 20, 100)
  | 18 => (26, 20, 100)
  | 19 => (27, 20, 100)
  | 20 => (28, 21, 100)
  | 21 => (34, 20, 160)
  | 22 => (36, 20, 24)
  | 23 => (37, 20, 24)
  | _ => (0, 0, 0)
def sp_mix : Nat → Nat
  | 1 => 0
  | 4 => 1
  | 5 => 2
  | 6 => 3
  | 7 => 4
  | 8 => 5
  | 9 => 6
  | 10 => 7
  | 11 => 8
  | 12 => 9
  | 15 => 10
  | 16 => 11
  | 18 => 12
  | 19 => 13
  | 20 => 14
  | 22 => 15
  | 23 => 16
  | 25 => 17
  | 26 => 18
  | 27 => 19
  | 28 => 20
  | 34 => 21
  | 36 => 22
  | 37 => 23
  | _ => 0
def sp_mB (x s : Nat) (k : Nat) : Nat := if k = 0 then x else s + sp_mix k
def sp_Pm (P : Nat → Prop) (s : Nat) (a : Nat) : Prop := P a ∨ (s ≤ a ∧ a < s + 24)
theorem sp_mt_big (k : Nat) (h : 38 ≤ k) : (sp_mt k).1 = 0 := by
  obtain ⟨q, rfl⟩ : ∃ q, k = q + 38 := ⟨k - 38, by omega⟩
  rfl
theorem sp_mt_lt {k : Nat} (h : (sp_mt k).1 ≠ 0) : k < 38 := Nat.lt_of_not_le fun q => h (sp_mt_big k q)
theorem sp_mix_tab : ∀ k, k < 38 → (sp_mt k).1 ≠ 0 → k ≠ 0 ∧ sp_mix k < 24 ∧ sp_mro (sp_mix k) = (k, (sp_mt k).1, (sp_mt k).2) := by decide
theorem sp_mro_inj : ∀ i, i < 24 → ∀ j, j < 24 → (sp_mro i).1 = (sp_mro j).1 → i = j := by decide
theorem sp_mro_ty : ∀ i, i < 24 → (sp_mro i).2.1 = 20 ∨ (sp_mro i).2.1 = 21 ∨ (sp_mro i).2.1 = 22 := by decide
/-- the model under construction: c rows of it are there -/
def sp_mi (G : sp_G) (P : Nat → Prop) (m0 : sp_M) (x s c : Nat) (m : sp_M) : Prop := sp_J G P sp_E0 m ∧ sp_wf m ∧ sp_fx m0 m sp_w0 ∧ m.nx = s + c ∧ m.ty x = 14 ∧ x < s ∧ m0.nx ≤ x ∧ (∀ k, k ≠ 832 → m.fI k x = 0) ∧ (∀ k, k ≠ 861 → k ≠ 862 → m.fL k x = 0) ∧ ∀ i, i < c → m.fR (832 + (sp_mro i).1) x = some (s + i) ∧ m.ty (s + i) = (sp_mro i).2.1 ∧ m.ln (s + i) = (sp_mro i).2.2 ∧ ∀ j, m.aI (s + i) j = 0
theorem sp_mi.ty {G : sp_G} {P : Nat → Prop} {m0 m : sp_M} {x s c : Nat} (h : sp_mi G P m0 x s c m) (t L : Nat) : (m.newA t L).ty x = 14 := by
  rw [sp_newA_ty, if_neg (by have := h.2.2.2.1; have := h.2.2.2.2.2.1; omega)]
  exact h.2.2.2.2.1
theorem sp_mi.st {G : sp_G} {P : Nat → Prop} {m0 m : sp_M} {x s c : Nat} (h : sp_mi G P m0 x s c m) (hc : c < 24) (q t L : Nat) (hq : q = 832 + (sp_mro c).1) (ht : t = (sp_mro c).2.1) (hL : L = (sp_mro c).2.2) : sp_mi G P m0 x s (c + 1) ((m.newA t L).pR q x (some m.nx)) := by
  obtain ⟨hJ, hw, hf, hn, hx, hxs, hx0, hI, hLL, hr⟩ := h
  have ht9 := sp_mro_ty c hc
  refine ⟨(sp_J_newA hJ hw t L (by rw [ht]; exact ht9)).pR (Or.inl (by unfold sp_fk; omega)), hw.newA t L, (hf.newA t L).pR (Or.inr hx0), ?_, ?_, hxs, hx0, hI, hLL, fun i hi => ?_⟩
  · show m.nx + 1 = s + (c + 1)
    omega
  · show (m.newA t L).ty x = 14
    rw [sp_newA_ty, if_neg (by omega)]
    exact hx
  · show ((m.newA t L).pR q x (some m.nx)).fR (832 + (sp_mro i).1) x = some (s + i) ∧ (m.newA t L).ty (s + i) = (sp_mro i).2.1 ∧ (m.newA t L).ln (s + i) = (sp_mro i).2.2 ∧ ∀ j, (m.newA t L).aI (s + i) j = 0
    by_cases hic : i = c
    · subst hic
      rw [sp_pR_fR, if_pos ⟨hq.symm, rfl⟩, sp_newA_ty, if_pos (by omega), sp_newA_ln, if_pos (by omega), hn]
      exact ⟨rfl, ht, hL, fun j => by rw [sp_newA_aI, if_pos (by omega)]⟩
    · rw [sp_pR_fR, if_neg (fun z => hic (sp_mro_inj i (by omega) c hc (by have := z.1; omega))), sp_newA_ty, if_neg (by omega), sp_newA_ln, if_neg (by omega)]
      obtain ⟨a1, a2, a3, a4⟩ := hr i (by omega)
      exact ⟨a1, a2, a3, fun j => by rw [sp_newA_aI, if_neg (by omega)]; exact a4 j⟩
theorem sp_mi.pL {G : sp_G} {P : Nat → Prop} {m0 m : sp_M} {x s c : Nat} (h : sp_mi G P m0 x s c m) (k : Nat) (v : Int64) (hk : k = 861 ∨ k = 862) : sp_mi G P m0 x s c (m.pL k x v) := by
  obtain ⟨hJ, hw, hf, hn, hx, hxs, hx0, hI, hLL, hr⟩ := h
  exact ⟨hJ.pL, hw, hf.pL (Or.inr hx0), hn, hx, hxs, hx0, hI, fun q h1 h2 => by rw [sp_pL_fL, if_neg (by omega)]; exact hLL q h1 h2, hr⟩
theorem sp_mi.pI {G : sp_G} {P : Nat → Prop} {m0 m : sp_M} {x s c : Nat} (h : sp_mi G P m0 x s c m) (v : Int32) : sp_mi G P m0 x s c (m.pI 832 x v) := by
  obtain ⟨hJ, hw, hf, hn, hx, hxs, hx0, hI, hLL, hr⟩ := h
  exact ⟨hJ.pI (by decide), hw, hf.pI (Or.inr hx0), hn, hx, hxs, hx0, fun k hk => by rw [sp_pI_fI, if_neg (fun z => hk z.1)]; exact hI k hk, hLL, hr⟩
theorem sp_mi.B {G : sp_G} {P : Nat → Prop} {m0 m : sp_M} {x s : Nat} (h : sp_mi G P m0 x s 24 m) {l0 l1 : Int64} (h0 : m.fL 861 x = l0) (h1 : m.fL 862 x = l1) : ∃ B : Nat → Nat, B 0 = x ∧ (∀ k, (sp_mt k).1 ≠ 0 → s ≤ B k ∧ B k < s + 24) ∧ sp_V B m m (m.aI (B 1)) (m.fI 832 x) l0 l1 0 0 0 0 0 0 0 0 0 0 0 0 (m.aL (B 15)) (m.aL (B 28)) ∧ ∀ k, (sp_mt k).1 ≠ 0 → ∀ j, m.aI (B k) j = 0 := by
  obtain ⟨hJ, hw, hf, hn, hx, hxs, hx0, hI, hLL, hr⟩ := h
  have hB : ∀ k, (sp_mt k).1 ≠ 0 → sp_mB x s k = s + sp_mix k ∧ sp_mix k < 24 ∧ sp_mro (sp_mix k) = (k, (sp_mt k).1, (sp_mt k).2) := fun k hk => by
    obtain ⟨a1, a2, a3⟩ := sp_mix_tab k (sp_mt_lt hk) hk
    exact ⟨by unfold sp_mB; rw [if_neg a1], a2, a3⟩
  have z : ∀ k, (sp_mt k).1 ≠ 0 → ∀ j, m.aI (sp_mB x s k) j = 0 := fun k hk j => by
    obtain ⟨a1, a2, -⟩ := hB k hk
    rw [a1]
    exact (hr _ a2).2.2.2 j
  refine ⟨sp_mB x s, rfl, fun k hk => by have := hB k hk; omega, ⟨sp_mf.refl _ _, ⟨hx, fun k hk => ?_, fun k k' hk hk' e => ?_⟩, hI 834 (by decide), hI 835 (by decide), hI 846 (by decide), hI 849 (by decide), hI 853 (by decide), hI 856 (by decide), hI 867 (by decide), rfl, rfl, h0, h1, by decide, by decide, by decide, by decide, by decide, by decide, by decide, by decide, fun j hj => by omega, fun j hj => by omega, fun j hj => by omega, fun j hj => by omega, fun j hj => ⟨0, z 19 (by decide) j, by decide⟩, fun j hj => by omega, fun j hj => by omega, fun j hj => by omega, fun j hj => by omega, hI 845 (by decide), hI 863 (by decide), hI 865 (by decide), hLL 864 (by decide) (by decide), rfl, rfl⟩, z⟩
  · obtain ⟨a1, a2, a3⟩ := hB k hk
    obtain ⟨b1, b2, b3, -⟩ := hr _ a2
    rw [a3] at b1 b2 b3
    rw [a1]
    exact ⟨b1, b2, b3⟩
  · obtain ⟨a1, a2, a3⟩ := hB k hk
    obtain ⟨c1, c2, c3⟩ := hB k' hk'
    have h9 : sp_mix k = sp_mix k' := by omega
    rw [h9, c3] at a3
    exact (congrArg Prod.fst a3).symm

def pu_TE : pu_N := (fun _ => 0, fun _ => 0, fun _ => 0, fun _ => 0, fun _ => 0, fun _ => 0, fun _ => [])
def pu_I1 : pu_N := pu_add pu_TE 0 0 0 0 0 []
def pu_I2 : pu_N := pu_add pu_I1 1 0 0 0 0 [111, 117, 116]
def pu_I3 : pu_N := pu_add pu_I2 2 0 0 0 0 [104, 111, 109, 101]
def pu_I4 : pu_N := pu_add pu_I3 3 1 0 2 0 [107, 101, 121]
theorem pu_TE.l : ∀ j, j < 0 → (pu_TE.w j).length ≤ 16 := fun j hj => absurd hj (Nat.not_lt_zero _)
theorem pu_I1.l : ∀ j, j < 1 → (pu_I1.w j).length ≤ 16 := by decide
theorem pu_I2.l : ∀ j, j < 2 → (pu_I2.w j).length ≤ 16 := by decide
theorem pu_I3.l : ∀ j, j < 3 → (pu_I3.w j).length ≤ 16 := by decide
theorem pu_I4.e : ∀ j, j < 4 → pu_T0.k j = pu_I4.k j ∧ pu_T0.s j = pu_I4.s j ∧ pu_T0.d j = pu_I4.d j ∧ pu_T0.g j = pu_I4.g j ∧ pu_T0.o j = pu_I4.o j ∧ pu_T0.h j = pu_I4.h j ∧ pu_T0.w j = pu_I4.w j := by decide
theorem sp_mN.eq4 {m : sp_M} {B : Nat → Nat} (h : sp_mN m B 4 4 pu_I4) : sp_mN m B 4 4 pu_T0 := by
  refine ⟨fun j hj => ?_, h.2.1, fun j hj hk => ?_⟩
  · obtain ⟨e1, e2, e3, e4, e5, e6, e7⟩ := pu_I4.e j hj
    rw [e1, e2, e3, e4, e5, e7]
    exact h.1 j hj
  · obtain ⟨e1, e2, e3, e4, e5, e6, e7⟩ := pu_I4.e j hj
    rw [e1] at hk
    rw [e6]
    exact h.2.2 j hj hk
theorem sp_mN.last {m m' : sp_M} {B : Nat → Nat} {n L : Nat} {T : pu_N} (h : sp_mN m B n L T) (hr : sp_rk B [9, 16] m m') (h9 : ∀ j, j < n → ¬ T.k j = 0 → m'.aI (B 9) j = nI (T.h j)) : sp_mN m' B n n T := by
  obtain ⟨h1, h2, h3⟩ := h
  refine ⟨?_, ?_, h9⟩
  · rw [hr 4 (by decide) (by decide), hr 5 (by decide) (by decide), hr 6 (by decide) (by decide), hr 7 (by decide) (by decide), hr 8 (by decide) (by decide), hr 10 (by decide) (by decide), hr 11 (by decide) (by decide)]
    exact h1
  · rw [hr 5 (by decide) (by decide), hr 6 (by decide) (by decide), hr 7 (by decide) (by decide)]
    exact h2
set_option maxHeartbeats 4000000 in
set_option maxRecDepth 20000 in
theorem c_Mo_init (l : Launch) (G : sp_G) (m : sp_M) {P : Nat → Prop} {m0 : sp_M} (hJ : sp_J G P sp_E0 m) (hwf : sp_wf m) (hfx : sp_fx m0 m sp_w0) {x : Nat} {r : Int32} (hx : m.ty x = 14) (hxf : ∀ k, m.fI k x = 0) (hxl : ∀ k, m.fL k x = 0) (hx0 : m0.nx ≤ x) : sp_C l G M_Mo_init 24 15836 [.ref x, .int r] m (sp_oV fun m' => ∃ (B : Nat → Nat) (D : Nat → Int32) (R : Int32) (w' : Nat) (m1 : sp_M) (vA vE : Nat → Int64), R = r &&& 63 ∧ B 0 = x ∧ (∀ k, (sp_mt k).1 ≠ 0 → m.nx ≤ B k ∧ B k < m.nx + 24) ∧ sp_J G (sp_Pm P m.nx) sp_E0 m1 ∧ sp_wf m1 ∧ sp_fx m0 m1 sp_w0 ∧ m1.nx = m.nx + 24 ∧ sp_V B m1 m' D R 1000000 4611686018427387904 0 4 1 0 0 0 4 w' 0 0 0 0 vA vE ∧ sp_mZ m' B 4 1 0 0 0 vA pu_Z0) := by
  refine sp_enter (lv0 := [(0, false, va_rf (some x)), (1, false, .int r)]) "SafePathsModel" true rfl (by decide) (fun _ => rfl) (Nat.le_of_ble_eq_true rfl) rfl ?_
  intro w X
  have h0 : sp_mi G (sp_Pm P m.nx) m0 x m.nx 0 m := by
    refine ⟨hJ.up ?_, hwf, hfx, rfl, hx, hwf x (by rw [hx]; decide), hx0, fun k _ => hxf k, fun k _ _ => hxl k, fun i hi => by omega⟩
    rintro a (z | z)
    · exact Or.inl z
    · right
      exact Classical.byContradiction fun q => by have := hwf a q; omega
  have cut234 : ∀ (B : Nat → Nat) (D : Nat → Int32) (R : Int32) (vA vE : Nat → Int64) (m1 : sp_M), R = r &&& 63 → B 0 = x → (∀ k, (sp_mt k).1 ≠ 0 → m.nx ≤ B k ∧ B k < m.nx + 24) → sp_J G (sp_Pm P m.nx) sp_E0 m1 → sp_wf m1 → sp_fx m0 m1 sp_w0 → m1.nx = m.nx + 24 → sp_V B m1 m1 D R 1000000 4611686018427387904 0 0 0 0 0 0 0 0 0 0 0 0 vA vE → (∀ k, (sp_mt k).1 ≠ 0 → ∀ j, m1.aI (B k) j = 0) → w 0 0 m1 234 [(0, false, va_rf (some (B 0)))] [] := by
    intro B D R vA vE m1 hRr hB0 hBs hJ1 hw1 hf1 hn1 hVm1 hz1
    have Nm1 : sp_mN m1 B 0 0 pu_TE := ⟨fun j hj => absurd hj (Nat.not_lt_zero _), fun j _ => ⟨hz1 5 (by decide) j, hz1 6 (by decide) j, hz1 7 (by decide) j⟩, fun j hj => absurd hj (Nat.not_lt_zero _)⟩
    refine sp_aload_n X (pc := 234) (r := some (B 0)) dX12_init_234 rfl rfl ?_
    refine sp_iconst X (pc := 235) (v := 0) dX12_init_235 (by decide) ?_
    refine sp_iconst X (pc := 236) (v := 0) dX12_init_236 (by decide) ?_
    refine sp_callV X (pc := 237) (mc := 0) (ms := 0) (b := (B 0)) (c := 13) (r := some (B 0)) (As := [.int 0, .int 0]) (rest := []) (c_Mo_add l G _ hVm1 (f := 0) (T := pu_TE) Nm1 pu_TE.l (by decide) (Or.inr ⟨rfl, rfl⟩) (by decide)) ok_Mo_add rfl hVm1.r.o (by decide) rfl lk_Mo_99 rfl rfl (Nat.zero_le _) (Nat.le_of_ble_eq_true rfl) (Nat.le_of_ble_eq_true rfl) (Nat.zero_le _) (Nat.zero_le _) dX12_init_237 (sp_kI fun v237 m237 hp237 => ?_)
    obtain ⟨-, hV237, k237, r237, hN237, h12237⟩ := hp237
    have hVm237 : sp_V B m1 m237 D R 1000000 4611686018427387904 0 1 0 0 0 0 1 0 0 0 0 0 vA vE := hV237.tL (fun j q1 q2 q3 => by
      obtain rfl : j = 0 := by omega
      rw [k237] at q3
      exact absurd q3 (by decide))
    have Nm237 : sp_mN m237 B 1 1 pu_I1 := by
      have z := hN237 0
      rw [show sp_wu m1 B 0 = ([] : List Int32) from rfl] at z
      refine ⟨z.1, z.2.1, fun j hj hk => ?_⟩
      by_cases q : j = 0
      · exact absurd (show pu_I1.k j = 0 by rw [q]; rfl) hk
      · exact z.2.2 j (by omega) hk
    have t237 : ∀ j, j < 1 → m237.aI (B 12) j = -1 := fun j hj => by
      rw [h12237 j]
      by_cases q : j = 0
      · rw [if_pos q]
      · rw [if_neg q]; exact by omega
    refine sp_pop X (pc := 240) dX12_init_240 rfl ?_
    refine sp_aload_n X (pc := 241) (r := some (B 0)) dX12_init_241 rfl rfl ?_
    refine sp_bipush X (pc := 242) (v := 111) dX12_init_242 (by decide) ?_
    refine sp_bipush X (pc := 244) (v := 117) dX12_init_244 (by decide) ?_
    refine sp_bipush X (pc := 246) (v := 116) dX12_init_246 (by decide) ?_
    refine sp_callV X (pc := 248) (mc := 0) (ms := 0) (b := (B 0)) (c := 13) (r := some (B 0)) (As := [.int 111, .int 117, .int 116]) (rest := []) (c_Mo_word3 l G _ hVm237) ok_Mo_word3 rfl hVm237.r.o (by decide) rfl lk_Mo_103 rfl rfl (Nat.zero_le _) (Nat.le_of_ble_eq_true rfl) (Nat.le_of_ble_eq_true rfl) (Nat.zero_le _) (Nat.zero_le _) dX12_init_248 (sp_kV fun m248 hp248 => ?_)
    obtain ⟨hVm248, wd248, x248, y248, z248⟩ := hp248
    have Nm248 := Nm237.rk (sp_rk.wd wd248 hVm237.r) (by decide)
    have t248 : ∀ j, j < 1 → m248.aI (B 12) j = -1 := by rw [wd248.2 _ (hVm237.ne 12 34 (by decide) (by decide) (by decide))]; exact t237
    refine sp_aload_n X (pc := 251) (r := some (B 0)) dX12_init_251 rfl rfl ?_
    refine sp_iconst X (pc := 252) (v := 0) dX12_init_252 (by decide) ?_
    refine sp_iconst X (pc := 253) (v := 0) dX12_init_253 (by decide) ?_
    refine sp_callV X (pc := 254) (mc := 0) (ms := 0) (b := (B 0)) (c := 13) (r := some (B 0)) (As := [.int 0, .int 0]) (rest := []) (c_Mo_add l G _ hVm248 (f := 0) (T := pu_I1) Nm248 pu_I1.l (by decide) (Or.inl (by decide)) (by decide)) ok_Mo_add rfl hVm248.r.o (by decide) rfl lk_Mo_99 rfl rfl (Nat.zero_le _) (Nat.le_of_ble_eq_true rfl) (Nat.le_of_ble_eq_true rfl) (Nat.zero_le _) (Nat.zero_le _) dX12_init_254 (sp_kI fun v254 m254 hp254 => ?_)
    obtain ⟨-, hV254, k254, r254, hN254, h12254⟩ := hp254
    have hVm254 : sp_V B m1 m254 D R 1000000 4611686018427387904 0 2 0 0 0 0 2 3 0 0 0 0 vA vE := hV254.tL (fun j q1 q2 q3 => by
      obtain rfl : j = 1 := by omega
      rw [k254] at q3
      exact absurd q3 (by decide))
    have Nm254 : sp_mN m254 B 2 2 pu_I2 := by
      have z := hN254 0
      rw [(show sp_wu m248 B 3 = ([111, 117, 116] : List Int32) from sp_wu_eq rfl (fun i hi => by
        have : i = 0 ∨ i = 1 ∨ i = 2 := by omega
        rcases this with rfl | rfl | rfl
        · exact x248
        · exact y248
        · exact z248))] at z
      refine ⟨z.1, z.2.1, fun j hj hk => ?_⟩
      by_cases q : j = 1
      · exact absurd (show pu_I2.k j = 0 by rw [q]; rfl) hk
      · exact z.2.2 j (by omega) hk
    have t254 : ∀ j, j < 2 → m254.aI (B 12) j = -1 := fun j hj => by
      rw [h12254 j]
      by_cases q : j = 1
      · rw [if_pos q]
      · rw [if_neg q]; exact t248 j (by omega)
    refine sp_pop X (pc := 257) dX12_init_257 rfl ?_
    refine sp_aload_n X (pc := 258) (r := some (B 0)) dX12_init_258 rfl rfl ?_
    refine sp_bipush X (pc := 259) (v := 104) dX12_init_259 (by decide) ?_
    refine sp_bipush X (pc := 261) (v := 111) dX12_init_261 (by decide) ?_
    refine sp_bipush X (pc := 263) (v := 109) dX12_init_263 (by decide) ?_
    refine sp_callV X (pc := 265) (mc := 0) (ms := 0) (b := (B 0)) (c := 13) (r := some (B 0)) (As := [.int 104, .int 111, .int 109]) (rest := []) (c_Mo_word3 l G _ hVm254) ok_Mo_word3 rfl hVm254.r.o (by decide) rfl lk_Mo_103 rfl rfl (Nat.zero_le _) (Nat.le_of_ble_eq_true rfl) (Nat.le_of_ble_eq_true rfl) (Nat.zero_le _) (Nat.zero_le _) dX12_init_265 (sp_kV fun m265 hp265 => ?_)
    obtain ⟨hVm265, wd265, x265, y265, z265⟩ := hp265
    have Nm265 := Nm254.rk (sp_rk.wd wd265 hVm254.r) (by decide)
    have t265 : ∀ j, j < 2 → m265.aI (B 12) j = -1 := by rw [wd265.2 _ (hVm254.ne 12 34 (by decide) (by decide) (by decide))]; exact t254
    refine sp_aload_n X (pc := 268) (r := some (B 0)) dX12_init_268 rfl rfl ?_
    refine sp_getfield X (pc := 269) (c := 13) (i := 34) (t := 2) (a := (B 0)) (v := va_rf (some (B 34))) rfl hVm265.r.o (by decide) rfl (congrArg va_rf hVm265.f34) fl_Mo_86 dX12_init_269 ?_
    refine sp_iconst X (pc := 272) (v := 3) dX12_init_272 (by decide) ?_
    refine sp_bipush X (pc := 273) (v := 101) dX12_init_273 (by decide) ?_
    refine sp_iastore X (pc := 275) (a := (B 34)) rfl hVm265.y34 (sp_in 3 hVm265.l34 (by omega) (by decide))  dX12_init_275 ?_
    rw [show (Int32.toNatClampNeg 3) = 3 from (nI_clamp (n := 3) (by omega))]
    obtain ⟨m275, hm275⟩ : ∃ xm, xm = (m265.sI (B 34) 3 101) := ⟨_, rfl⟩
    rw [← hm275]
    have hVm275 : sp_V B m1 m275 D R 1000000 4611686018427387904 0 2 0 0 0 0 2 3 0 0 0 0 vA vE := by
      rw [hm275]
      exact hVm265.sI 34 3 _ (by decide) (by decide) (Nat.zero_le _)
    have d0 : m275.aI (B 34) 0 = 104 := by
      rw [hm275]
      rw [sp_sI_aI, if_neg (by omega)]; exact x265
    have d1 : m275.aI (B 34) 1 = 111 := by
      rw [hm275]
      rw [sp_sI_aI, if_neg (by omega)]; exact y265
    have d2 : m275.aI (B 34) 2 = 109 := by
      rw [hm275]
      rw [sp_sI_aI, if_neg (by omega)]; exact z265
    have d3 : m275.aI (B 34) 3 = 101 := by
      rw [hm275]
      rw [sp_sI_aI, if_pos ⟨rfl, rfl⟩]
    have rk275 : sp_rk B [34] m265 m275 := by
      rw [hm275]
      exact (sp_rk.refl _ _ _).sI hVm265.r 34 _ _ (by decide) (by decide)
    clear hm275
    refine sp_aload_n X (pc := 276) (r := some (B 0)) dX12_init_276 rfl rfl ?_
    refine sp_iconst X (pc := 277) (v := 4) dX12_init_277 (by decide) ?_
    refine sp_putI X (pc := 278) (c := 13) (i := 35) (q := 867) (a := (B 0)) rfl hVm275.r.o (by decide) rfl rfl (Or.inl rfl) ⟨rfl, rfl⟩ fl_Mo_107 dX12_init_278 ?_
    obtain ⟨m278, hm278⟩ : ∃ xm, xm = (m275.pI 867 (B 0) 4) := ⟨_, rfl⟩
    rw [← hm278]
    have hVm278 : sp_V B m1 m278 D R 1000000 4611686018427387904 0 2 0 0 0 0 2 4 0 0 0 0 vA vE := by
      rw [hm278]
      exact hVm275.pw 4 (by omega)
    have e0 : m278.aI (B 34) 0 = 104 := by
      rw [hm278]
      exact d0
    have e1 : m278.aI (B 34) 1 = 111 := by
      rw [hm278]
      exact d1
    have e2 : m278.aI (B 34) 2 = 109 := by
      rw [hm278]
      exact d2
    have e3 : m278.aI (B 34) 3 = 101 := by
      rw [hm278]
      exact d3
    have rk278 : sp_rk B [34] m265 m278 := by
      rw [hm278]
      exact rk275
    clear hm278
    have Nm278 := Nm265.rk rk278 (by decide)
    have t278 : ∀ j, j < 2 → m278.aI (B 12) j = -1 := by rw [rk278 12 (by decide) (by decide)]; exact t265
    refine sp_aload_n X (pc := 281) (r := some (B 0)) dX12_init_281 rfl rfl ?_
    refine sp_iconst X (pc := 282) (v := 0) dX12_init_282 (by decide) ?_
    refine sp_iconst X (pc := 283) (v := 0) dX12_init_283 (by decide) ?_
    refine sp_callV X (pc := 284) (mc := 0) (ms := 0) (b := (B 0)) (c := 13) (r := some (B 0)) (As := [.int 0, .int 0]) (rest := []) (c_Mo_add l G _ hVm278 (f := 0) (T := pu_I2) Nm278 pu_I2.l (by decide) (Or.inl (by decide)) (by decide)) ok_Mo_add rfl hVm278.r.o (by decide) rfl lk_Mo_99 rfl rfl (Nat.zero_le _) (Nat.le_of_ble_eq_true rfl) (Nat.le_of_ble_eq_true rfl) (Nat.zero_le _) (Nat.zero_le _) dX12_init_284 (sp_kI fun v284 m284 hp284 => ?_)
    obtain ⟨-, hV284, k284, r284, hN284, h12284⟩ := hp284
    have hVm284 : sp_V B m1 m284 D R 1000000 4611686018427387904 0 3 0 0 0 0 3 4 0 0 0 0 vA vE := hV284.tL (fun j q1 q2 q3 => by
      obtain rfl : j = 2 := by omega
      rw [k284] at q3
      exact absurd q3 (by decide))
    have Nm284 : sp_mN m284 B 3 3 pu_I3 := by
      have z := hN284 0
      rw [(show sp_wu m278 B 4 = ([104, 111, 109, 101] : List Int32) from sp_wu_eq rfl (fun i hi => by
        have : i = 0 ∨ i = 1 ∨ i = 2 ∨ i = 3 := by omega
        rcases this with rfl | rfl | rfl | rfl
        · exact e0
        · exact e1
        · exact e2
        · exact e3))] at z
      refine ⟨z.1, z.2.1, fun j hj hk => ?_⟩
      by_cases q : j = 2
      · exact absurd (show pu_I3.k j = 0 by rw [q]; rfl) hk
      · exact z.2.2 j (by omega) hk
    have t284 : ∀ j, j < 3 → m284.aI (B 12) j = -1 := fun j hj => by
      rw [h12284 j]
      by_cases q : j = 2
      · rw [if_pos q]
      · rw [if_neg q]; exact t278 j (by omega)
    refine sp_pop X (pc := 287) dX12_init_287 rfl ?_
    refine sp_aload_n X (pc := 288) (r := some (B 0)) dX12_init_288 rfl rfl ?_
    refine sp_bipush X (pc := 289) (v := 107) dX12_init_289 (by decide) ?_
    refine sp_bipush X (pc := 291) (v := 101) dX12_init_291 (by decide) ?_
    refine sp_bipush X (pc := 293) (v := 121) dX12_init_293 (by decide) ?_
    refine sp_callV X (pc := 295) (mc := 0) (ms := 0) (b := (B 0)) (c := 13) (r := some (B 0)) (As := [.int 107, .int 101, .int 121]) (rest := []) (c_Mo_word3 l G _ hVm284) ok_Mo_word3 rfl hVm284.r.o (by decide) rfl lk_Mo_103 rfl rfl (Nat.zero_le _) (Nat.le_of_ble_eq_true rfl) (Nat.le_of_ble_eq_true rfl) (Nat.zero_le _) (Nat.zero_le _) dX12_init_295 (sp_kV fun m295 hp295 => ?_)
    obtain ⟨hVm295, wd295, x295, y295, z295⟩ := hp295
    have Nm295 := Nm284.rk (sp_rk.wd wd295 hVm284.r) (by decide)
    have t295 : ∀ j, j < 3 → m295.aI (B 12) j = -1 := by rw [wd295.2 _ (hVm284.ne 12 34 (by decide) (by decide) (by decide))]; exact t284
    refine sp_aload_n X (pc := 298) (r := some (B 0)) dX12_init_298 rfl rfl ?_
    refine sp_iconst X (pc := 299) (v := 1) dX12_init_299 (by decide) ?_
    refine sp_iconst X (pc := 300) (v := 2) dX12_init_300 (by decide) ?_
    refine sp_callV X (pc := 301) (mc := 0) (ms := 0) (b := (B 0)) (c := 13) (r := some (B 0)) (As := [.int 1, .int 2]) (rest := []) (c_Mo_add l G _ hVm295 (f := 2) (T := pu_I3) Nm295 pu_I3.l (by decide) (Or.inl (by decide)) (by decide)) ok_Mo_add rfl hVm295.r.o (by decide) rfl lk_Mo_99 rfl rfl (Nat.zero_le _) (Nat.le_of_ble_eq_true rfl) (Nat.le_of_ble_eq_true rfl) (Nat.zero_le _) (Nat.zero_le _) dX12_init_301 (sp_kI fun v301 m301 hp301 => ?_)
    obtain ⟨-, hVm301, k301, r301, hN301, h12301⟩ := hp301
    have Z301 := hN301 0
    rw [(show sp_wu m295 B 3 = ([107, 101, 121] : List Int32) from sp_wu_eq rfl (fun i hi => by
        have : i = 0 ∨ i = 1 ∨ i = 2 := by omega
        rcases this with rfl | rfl | rfl
        · exact x295
        · exact y295
        · exact z295))] at Z301
    refine sp_pop X (pc := 304) dX12_init_304 rfl ?_
    refine sp_aload_n X (pc := 305) (r := some (B 0)) dX12_init_305 rfl rfl ?_
    refine sp_getfield X (pc := 306) (c := 13) (i := 9) (t := 2) (a := (B 0)) (v := va_rf (some (B 9))) rfl hVm301.r.o (by decide) rfl (congrArg va_rf hVm301.f9) fl_Mo_29 dX12_init_306 ?_
    refine sp_iconst X (pc := 309) (v := 3) dX12_init_309 (by decide) ?_
    refine sp_iconst X (pc := 310) (v := 0) dX12_init_310 (by decide) ?_
    refine sp_iastore X (pc := 311) (a := (B 9)) rfl hVm301.y9 (sp_in 3 hVm301.l9 (by omega) (by decide))  dX12_init_311 ?_
    rw [show (Int32.toNatClampNeg 3) = 3 from (nI_clamp (n := 3) (by omega))]
    obtain ⟨m311, hm311⟩ : ∃ xm, xm = (m301.sI (B 9) 3 0) := ⟨_, rfl⟩
    rw [← hm311]
    have hVm311 : sp_V B m1 m311 D R 1000000 4611686018427387904 0 4 0 0 0 0 3 3 0 0 0 0 vA vE := by
      rw [hm311]
      exact hVm301.sI 9 3 _ (by decide) (by decide) (Nat.le_refl _)
    have k311 : m311.aI (B 4) 3 = 1 := by
      rw [hm311]
      rw [sp_sI_aI, if_neg (fun z => hVm301.ne 4 9 (by decide) (by decide) (by decide) z.1)]; exact k301
    have g311 : m311.aI (B 9) 3 = 0 := by
      rw [hm311]
      rw [sp_sI_aI, if_pos ⟨rfl, rfl⟩]
    have r311 : sp_rk B [9, 16] m301 m311 := by
      rw [hm311]
      exact (sp_rk.refl _ _ _).sI hVm301.r 9 _ _ (by decide) (by decide)
    clear hm311
    refine sp_aload_n X (pc := 312) (r := some (B 0)) dX12_init_312 rfl rfl ?_
    refine sp_getfield X (pc := 313) (c := 13) (i := 15) (t := 2) (a := (B 0)) (v := va_rf (some (B 15))) rfl hVm311.r.o (by decide) rfl (congrArg va_rf hVm311.f15) fl_Mo_41 dX12_init_313 ?_
    refine sp_iconst X (pc := 316) (v := 0) dX12_init_316 (by decide) ?_
    refine sp_ldc2 X (pc := 317) (v := 8) kl_Mo_110 dX12_init_317 ?_
    refine sp_lastore X (pc := 320) (a := (B 15)) rfl hVm311.y15 (sp_in 0 hVm311.l15 (by omega) (by decide))  dX12_init_320 ?_
    rw [show (Int32.toNatClampNeg 0) = 0 from (nI_clamp (n := 0) (by omega))]
    obtain ⟨m320, hm320⟩ : ∃ xm, xm = (m311.sL (B 15) 0 8) := ⟨_, rfl⟩
    rw [← hm320]
    have hVm320 : sp_V B m1 m320 D R 1000000 4611686018427387904 0 4 0 0 0 0 3 3 0 0 0 0 (fun i => if i = 0 then 8 else vA i) vE := by
      rw [hm320]
      exact hVm311.sA 0 8
    have k320 : m320.aI (B 4) 3 = 1 := by
      rw [hm320]
      exact k311
    have g320 : m320.aI (B 9) 3 = 0 := by
      rw [hm320]
      exact g311
    have r320 : sp_rk B [9, 16] m301 m320 := by
      rw [hm320]
      exact r311
    clear hm320
    refine sp_aload_n X (pc := 321) (r := some (B 0)) dX12_init_321 rfl rfl ?_
    refine sp_getfield X (pc := 322) (c := 13) (i := 16) (t := 2) (a := (B 0)) (v := va_rf (some (B 16))) rfl hVm320.r.o (by decide) rfl (congrArg va_rf hVm320.f16) fl_Mo_45 dX12_init_322 ?_
    refine sp_iconst X (pc := 325) (v := 0) dX12_init_325 (by decide) ?_
    refine sp_bipush X (pc := 326) (v := 42) dX12_init_326 (by decide) ?_
    refine sp_iastore X (pc := 328) (a := (B 16)) rfl hVm320.y16 (sp_in 0 hVm320.l16 (by omega) (by decide))  dX12_init_328 ?_
    rw [show (Int32.toNatClampNeg 0) = 0 from (nI_clamp (n := 0) (by omega))]
    obtain ⟨m328, hm328⟩ : ∃ xm, xm = (m320.sI (B 16) 0 42) := ⟨_, rfl⟩
    rw [← hm328]
    have hVm328 : sp_V B m1 m328 D R 1000000 4611686018427387904 0 4 0 0 0 0 3 3 0 0 0 0 (fun i => if i = 0 then 8 else vA i) vE := by
      rw [hm328]
      exact hVm320.sI 16 0 _ (by decide) (by decide) (Nat.zero_le _)
    have k328 : m328.aI (B 4) 3 = 1 := by
      rw [hm328]
      rw [sp_sI_aI, if_neg (fun z => hVm301.ne 4 16 (by decide) (by decide) (by decide) z.1)]; exact k320
    have g328 : m328.aI (B 9) 3 = 0 := by
      rw [hm328]
      rw [sp_sI_aI, if_neg (fun z => hVm301.ne 9 16 (by decide) (by decide) (by decide) z.1)]; exact g320
    have r328 : sp_rk B [9, 16] m301 m328 := by
      rw [hm328]
      exact r320.sI hVm320.r 16 _ _ (by decide) (by decide)
    have v328 : m328.aI (B 16) 0 = 42 := by
      rw [hm328]
      rw [sp_sI_aI, if_pos ⟨rfl, rfl⟩]
    clear hm328
    refine sp_aload_n X (pc := 329) (r := some (B 0)) dX12_init_329 rfl rfl ?_
    refine sp_iconst X (pc := 330) (v := 1) dX12_init_330 (by decide) ?_
    refine sp_putI X (pc := 331) (c := 13) (i := 14) (q := 846) (a := (B 0)) rfl hVm328.r.o (by decide) rfl rfl (Or.inl rfl) ⟨rfl, rfl⟩ fl_Mo_112 dX12_init_331 ?_
    obtain ⟨m331, hm331⟩ : ∃ xm, xm = (m328.pI 846 (B 0) 1) := ⟨_, rfl⟩
    rw [← hm331]
    have hVm331 : sp_V B m1 m331 D R 1000000 4611686018427387904 0 4 1 0 0 0 3 3 0 0 0 0 (fun i => if i = 0 then 8 else vA i) vE := by
      rw [hm331]
      exact hVm328.pb 1 (by omega)
    have k331 : m331.aI (B 4) 3 = 1 := by
      rw [hm331]
      exact k328
    have g331 : m331.aI (B 9) 3 = 0 := by
      rw [hm331]
      exact g328
    have r331 : sp_rk B [9, 16] m301 m331 := by
      rw [hm331]
      exact r328
    have v331 : m331.aI (B 16) 0 = 42 := by
      rw [hm331]
      exact v328
    clear hm331
    refine sp_return X (pc := 334) dX12_init_334 ⟨rfl, ?_⟩
    refine ⟨B, D, R, 3, m1, _, vE, hRr, hB0, hBs, hJ1, hw1, hf1, hn1, hVm331.tL (fun j q1 q2 q3 => ?_), ⟨rfl, rfl⟩, ?_, fun j hj => ?_, fun j hj => ?_, rfl, rfl, rfl⟩
    · obtain rfl : j = 3 := by omega
      rw [k331] at q3
      exact absurd q3 (by decide)
    · refine sp_mN.eq4 (sp_mN.last Z301 r331 (fun j hj hk => ?_))
      have : j = 0 ∨ j = 1 ∨ j = 2 ∨ j = 3 := by omega
      rcases this with rfl | rfl | rfl | rfl
      · exact absurd rfl hk
      · exact absurd rfl hk
      · exact absurd rfl hk
      · exact g331
    · obtain rfl : j = 0 := by omega
      exact ⟨rfl, v331⟩
    · rw [r331 12 (by decide) (by decide), h12301 j]
      show _ = (-1 : Int32)
      by_cases q : j = 3
      · rw [if_pos q]
      · rw [if_neg q]; exact t295 j (by omega)
  refine sp_aload_n X (pc := 0) (r := some x) dX12_init_0 rfl rfl ?_
  refine sp_objInit X (pc := 1) (a := x) rfl lk_Mo_1 oi_1 oi_2 (Nat.le_of_ble_eq_true rfl) (Nat.le_of_ble_eq_true rfl) dX12_init_1 ?_
  refine sp_aload_n X (pc := 4) (r := some x) dX12_init_4 rfl rfl ?_
  refine sp_sipush X (pc := 5) (v := 160) dX12_init_5 (by decide) ?_
  refine sp_newarrI X (pc := 8) (N := 160) (by decide) (by decide +kernel) (by decide) (by decide) (by decide) dX12_init_8 ?_
  refine sp_putR X (pc := 10) (c := 13) (i := 1) (q := 833) (a := x) rfl (h0.ty 20 160) (by decide) rfl rfl (Or.inr ⟨rfl, rfl, rfl⟩)  fl_Mo_7 dX12_init_10 ?_
  obtain ⟨c10, hc10⟩ : ∃ xm, xm = (m.newA 20 160).pR 833 x (some m.nx) := ⟨_, rfl⟩
  rw [← hc10]
  have Hc10 : sp_mi G (sp_Pm P m.nx) m0 x m.nx 1 c10 := by
    rw [hc10]
    exact h0.st (by decide) 833 20 160 rfl rfl rfl
  clear hc10
  refine sp_aload_n X (pc := 13) (r := some x) dX12_init_13 rfl rfl ?_
  refine sp_sipush X (pc := 14) (v := 200) dX12_init_14 (by decide) ?_
  refine sp_newarrI X (pc := 17) (N := 200) (by decide) (by decide +kernel) (by decide) (by decide) (by decide) dX12_init_17 ?_
  refine sp_putR X (pc := 19) (c := 13) (i := 4) (q := 836) (a := x) rfl (Hc10.ty 20 200) (by decide) rfl rfl (Or.inr ⟨rfl, rfl, rfl⟩)  fl_Mo_13 dX12_init_19 ?_
  obtain ⟨c19, hc19⟩ : ∃ xm, xm = (c10.newA 20 200).pR 836 x (some c10.nx) := ⟨_, rfl⟩
  rw [← hc19]
  have Hc19 : sp_mi G (sp_Pm P m.nx) m0 x m.nx 2 c19 := by
    rw [hc19]
    exact Hc10.st (by decide) 836 20 200 rfl rfl rfl
  clear hc19
  refine sp_aload_n X (pc := 22) (r := some x) dX12_init_22 rfl rfl ?_
  refine sp_sipush X (pc := 23) (v := 200) dX12_init_23 (by decide) ?_
  refine sp_newarrZ X (pc := 26) (N := 200) (by decide) (by decide +kernel) (by decide) (by decide) (by decide) dX12_init_26 ?_
  refine sp_putR X (pc := 28) (c := 13) (i := 5) (q := 837) (a := x) rfl (Hc19.ty 22 200) (by decide) rfl rfl (Or.inr ⟨rfl, rfl, rfl⟩)  fl_Mo_16 dX12_init_28 ?_
  obtain ⟨c28, hc28⟩ : ∃ xm, xm = (c19.newA 22 200).pR 837 x (some c19.nx) := ⟨_, rfl⟩
  rw [← hc28]
  have Hc28 : sp_mi G (sp_Pm P m.nx) m0 x m.nx 3 c28 := by
    rw [hc28]
    exact Hc19.st (by decide) 837 22 200 rfl rfl rfl
  clear hc28
  refine sp_aload_n X (pc := 31) (r := some x) dX12_init_31 rfl rfl ?_
  refine sp_sipush X (pc := 32) (v := 200) dX12_init_32 (by decide) ?_
  refine sp_newarrZ X (pc := 35) (N := 200) (by decide) (by decide +kernel) (by decide) (by decide) (by decide) dX12_init_35 ?_
  refine sp_putR X (pc := 37) (c := 13) (i := 6) (q := 838) (a := x) rfl (Hc28.ty 22 200) (by decide) rfl rfl (Or.inr ⟨rfl, rfl, rfl⟩)  fl_Mo_20 dX12_init_37 ?_
  obtain ⟨c37, hc37⟩ : ∃ xm, xm = (c28.newA 22 200).pR 838 x (some c28.nx) := ⟨_, rfl⟩
  rw [← hc37]
  have Hc37 : sp_mi G (sp_Pm P m.nx) m0 x m.nx 4 c37 := by
    rw [hc37]
    exact Hc28.st (by decide) 838 22 200 rfl rfl rfl
  clear hc37
  refine sp_aload_n X (pc := 40) (r := some x) dX12_init_40 rfl rfl ?_
  refine sp_sipush X (pc := 41) (v := 200) dX12_init_41 (by decide) ?_
  refine sp_newarrZ X (pc := 44) (N := 200) (by decide) (by decide +kernel) (by decide) (by decide) (by decide) dX12_init_44 ?_
  refine sp_putR X (pc := 46) (c := 13) (i := 7) (q := 839) (a := x) rfl (Hc37.ty 22 200) (by decide) rfl rfl (Or.inr ⟨rfl, rfl, rfl⟩)  fl_Mo_23 dX12_init_46 ?_
  obtain ⟨c46, hc46⟩ : ∃ xm, xm = (c37.newA 22 200).pR 839 x (some c37.nx) := ⟨_, rfl⟩
  rw [← hc46]
  have Hc46 : sp_mi G (sp_Pm P m.nx) m0 x m.nx 5 c46 := by
    rw [hc46]
    exact Hc37.st (by decide) 839 22 200 rfl rfl rfl
  clear hc46
  refine sp_aload_n X (pc := 49) (r := some x) dX12_init_49 rfl rfl ?_
  refine sp_sipush X (pc := 50) (v := 200) dX12_init_50 (by decide) ?_
  refine sp_newarrI X (pc := 53) (N := 200) (by decide) (by decide +kernel) (by decide) (by decide) (by decide) dX12_init_53 ?_
  refine sp_putR X (pc := 55) (c := 13) (i := 8) (q := 840) (a := x) rfl (Hc46.ty 20 200) (by decide) rfl rfl (Or.inr ⟨rfl, rfl, rfl⟩)  fl_Mo_26 dX12_init_55 ?_
  obtain ⟨c55, hc55⟩ : ∃ xm, xm = (c46.newA 20 200).pR 840 x (some c46.nx) := ⟨_, rfl⟩
  rw [← hc55]
  have Hc55 : sp_mi G (sp_Pm P m.nx) m0 x m.nx 6 c55 := by
    rw [hc55]
    exact Hc46.st (by decide) 840 20 200 rfl rfl rfl
  clear hc55
  refine sp_aload_n X (pc := 58) (r := some x) dX12_init_58 rfl rfl ?_
  refine sp_sipush X (pc := 59) (v := 200) dX12_init_59 (by decide) ?_
  refine sp_newarrI X (pc := 62) (N := 200) (by decide) (by decide +kernel) (by decide) (by decide) (by decide) dX12_init_62 ?_
  refine sp_putR X (pc := 64) (c := 13) (i := 9) (q := 841) (a := x) rfl (Hc55.ty 20 200) (by decide) rfl rfl (Or.inr ⟨rfl, rfl, rfl⟩)  fl_Mo_29 dX12_init_64 ?_
  obtain ⟨c64, hc64⟩ : ∃ xm, xm = (c55.newA 20 200).pR 841 x (some c55.nx) := ⟨_, rfl⟩
  rw [← hc64]
  have Hc64 : sp_mi G (sp_Pm P m.nx) m0 x m.nx 7 c64 := by
    rw [hc64]
    exact Hc55.st (by decide) 841 20 200 rfl rfl rfl
  clear hc64
  refine sp_aload_n X (pc := 67) (r := some x) dX12_init_67 rfl rfl ?_
  refine sp_sipush X (pc := 68) (v := 200) dX12_init_68 (by decide) ?_
  refine sp_newarrI X (pc := 71) (N := 200) (by decide) (by decide +kernel) (by decide) (by decide) (by decide) dX12_init_71 ?_
  refine sp_putR X (pc := 73) (c := 13) (i := 10) (q := 842) (a := x) rfl (Hc64.ty 20 200) (by decide) rfl rfl (Or.inr ⟨rfl, rfl, rfl⟩)  fl_Mo_32 dX12_init_73 ?_
  obtain ⟨c73, hc73⟩ : ∃ xm, xm = (c64.newA 20 200).pR 842 x (some c64.nx) := ⟨_, rfl⟩
  rw [← hc73]
  have Hc73 : sp_mi G (sp_Pm P m.nx) m0 x m.nx 8 c73 := by
    rw [hc73]
    exact Hc64.st (by decide) 842 20 200 rfl rfl rfl
  clear hc73
  refine sp_aload_n X (pc := 76) (r := some x) dX12_init_76 rfl rfl ?_
  refine sp_sipush X (pc := 77) (v := 3200) dX12_init_77 (by decide) ?_
  refine sp_newarrI X (pc := 80) (N := 3200) (by decide) (by decide +kernel) (by decide) (by decide) (by decide) dX12_init_80 ?_
  refine sp_putR X (pc := 82) (c := 13) (i := 11) (q := 843) (a := x) rfl (Hc73.ty 20 3200) (by decide) rfl rfl (Or.inr ⟨rfl, rfl, rfl⟩)  fl_Mo_35 dX12_init_82 ?_
  obtain ⟨c82, hc82⟩ : ∃ xm, xm = (c73.newA 20 3200).pR 843 x (some c73.nx) := ⟨_, rfl⟩
  rw [← hc82]
  have Hc82 : sp_mi G (sp_Pm P m.nx) m0 x m.nx 9 c82 := by
    rw [hc82]
    exact Hc73.st (by decide) 843 20 3200 rfl rfl rfl
  clear hc82
  refine sp_aload_n X (pc := 85) (r := some x) dX12_init_85 rfl rfl ?_
  refine sp_sipush X (pc := 86) (v := 200) dX12_init_86 (by decide) ?_
  refine sp_newarrI X (pc := 89) (N := 200) (by decide) (by decide +kernel) (by decide) (by decide) (by decide) dX12_init_89 ?_
  refine sp_putR X (pc := 91) (c := 13) (i := 12) (q := 844) (a := x) rfl (Hc82.ty 20 200) (by decide) rfl rfl (Or.inr ⟨rfl, rfl, rfl⟩)  fl_Mo_38 dX12_init_91 ?_
  obtain ⟨c91, hc91⟩ : ∃ xm, xm = (c82.newA 20 200).pR 844 x (some c82.nx) := ⟨_, rfl⟩
  rw [← hc91]
  have Hc91 : sp_mi G (sp_Pm P m.nx) m0 x m.nx 10 c91 := by
    rw [hc91]
    exact Hc82.st (by decide) 844 20 200 rfl rfl rfl
  clear hc91
  refine sp_aload_n X (pc := 94) (r := some x) dX12_init_94 rfl rfl ?_
  refine sp_sipush X (pc := 95) (v := 204) dX12_init_95 (by decide) ?_
  refine sp_newarrL X (pc := 98) (N := 204) (by decide) (by decide +kernel) (by decide) (by decide) (by decide) dX12_init_98 ?_
  refine sp_putR X (pc := 100) (c := 13) (i := 15) (q := 847) (a := x) rfl (Hc91.ty 21 204) (by decide) rfl rfl (Or.inr ⟨rfl, rfl, rfl⟩)  fl_Mo_41 dX12_init_100 ?_
  obtain ⟨c100, hc100⟩ : ∃ xm, xm = (c91.newA 21 204).pR 847 x (some c91.nx) := ⟨_, rfl⟩
  rw [← hc100]
  have Hc100 : sp_mi G (sp_Pm P m.nx) m0 x m.nx 11 c100 := by
    rw [hc100]
    exact Hc91.st (by decide) 847 21 204 rfl rfl rfl
  clear hc100
  refine sp_aload_n X (pc := 103) (r := some x) dX12_init_103 rfl rfl ?_
  refine sp_sipush X (pc := 104) (v := 204) dX12_init_104 (by decide) ?_
  refine sp_newarrI X (pc := 107) (N := 204) (by decide) (by decide +kernel) (by decide) (by decide) (by decide) dX12_init_107 ?_
  refine sp_putR X (pc := 109) (c := 13) (i := 16) (q := 848) (a := x) rfl (Hc100.ty 20 204) (by decide) rfl rfl (Or.inr ⟨rfl, rfl, rfl⟩)  fl_Mo_45 dX12_init_109 ?_
  obtain ⟨c109, hc109⟩ : ∃ xm, xm = (c100.newA 20 204).pR 848 x (some c100.nx) := ⟨_, rfl⟩
  rw [← hc109]
  have Hc109 : sp_mi G (sp_Pm P m.nx) m0 x m.nx 12 c109 := by
    rw [hc109]
    exact Hc100.st (by decide) 848 20 204 rfl rfl rfl
  clear hc109
  refine sp_aload_n X (pc := 112) (r := some x) dX12_init_112 rfl rfl ?_
  refine sp_bipush X (pc := 113) (v := 60) dX12_init_113 (by decide) ?_
  refine sp_newarrI X (pc := 115) (N := 60) (by decide) (by decide +kernel) (by decide) (by decide) (by decide) dX12_init_115 ?_
  refine sp_putR X (pc := 117) (c := 13) (i := 18) (q := 850) (a := x) rfl (Hc109.ty 20 60) (by decide) rfl rfl (Or.inr ⟨rfl, rfl, rfl⟩)  fl_Mo_48 dX12_init_117 ?_
  obtain ⟨c117, hc117⟩ : ∃ xm, xm = (c109.newA 20 60).pR 850 x (some c109.nx) := ⟨_, rfl⟩
  rw [← hc117]
  have Hc117 : sp_mi G (sp_Pm P m.nx) m0 x m.nx 13 c117 := by
    rw [hc117]
    exact Hc109.st (by decide) 850 20 60 rfl rfl rfl
  clear hc117
  refine sp_aload_n X (pc := 120) (r := some x) dX12_init_120 rfl rfl ?_
  refine sp_sipush X (pc := 121) (v := 480) dX12_init_121 (by decide) ?_
  refine sp_newarrI X (pc := 124) (N := 480) (by decide) (by decide +kernel) (by decide) (by decide) (by decide) dX12_init_124 ?_
  refine sp_putR X (pc := 126) (c := 13) (i := 19) (q := 851) (a := x) rfl (Hc117.ty 20 480) (by decide) rfl rfl (Or.inr ⟨rfl, rfl, rfl⟩)  fl_Mo_51 dX12_init_126 ?_
  obtain ⟨c126, hc126⟩ : ∃ xm, xm = (c117.newA 20 480).pR 851 x (some c117.nx) := ⟨_, rfl⟩
  rw [← hc126]
  have Hc126 : sp_mi G (sp_Pm P m.nx) m0 x m.nx 14 c126 := by
    rw [hc126]
    exact Hc117.st (by decide) 851 20 480 rfl rfl rfl
  clear hc126
  refine sp_aload_n X (pc := 129) (r := some x) dX12_init_129 rfl rfl ?_
  refine sp_sipush X (pc := 130) (v := 7680) dX12_init_130 (by decide) ?_
  refine sp_newarrI X (pc := 133) (N := 7680) (by decide) (by decide +kernel) (by decide) (by decide) (by decide) dX12_init_133 ?_
  refine sp_putR X (pc := 135) (c := 13) (i := 20) (q := 852) (a := x) rfl (Hc126.ty 20 7680) (by decide) rfl rfl (Or.inr ⟨rfl, rfl, rfl⟩)  fl_Mo_54 dX12_init_135 ?_
  obtain ⟨c135, hc135⟩ : ∃ xm, xm = (c126.newA 20 7680).pR 852 x (some c126.nx) := ⟨_, rfl⟩
  rw [← hc135]
  have Hc135 : sp_mi G (sp_Pm P m.nx) m0 x m.nx 15 c135 := by
    rw [hc135]
    exact Hc126.st (by decide) 852 20 7680 rfl rfl rfl
  clear hc135
  refine sp_aload_n X (pc := 138) (r := some x) dX12_init_138 rfl rfl ?_
  refine sp_bipush X (pc := 139) (v := 40) dX12_init_139 (by decide) ?_
  refine sp_newarrI X (pc := 141) (N := 40) (by decide) (by decide +kernel) (by decide) (by decide) (by decide) dX12_init_141 ?_
  refine sp_putR X (pc := 143) (c := 13) (i := 22) (q := 854) (a := x) rfl (Hc135.ty 20 40) (by decide) rfl rfl (Or.inr ⟨rfl, rfl, rfl⟩)  fl_Mo_57 dX12_init_143 ?_
  obtain ⟨c143, hc143⟩ : ∃ xm, xm = (c135.newA 20 40).pR 854 x (some c135.nx) := ⟨_, rfl⟩
  rw [← hc143]
  have Hc143 : sp_mi G (sp_Pm P m.nx) m0 x m.nx 16 c143 := by
    rw [hc143]
    exact Hc135.st (by decide) 854 20 40 rfl rfl rfl
  clear hc143
  refine sp_aload_n X (pc := 146) (r := some x) dX12_init_146 rfl rfl ?_
  refine sp_sipush X (pc := 147) (v := 1600) dX12_init_147 (by decide) ?_
  refine sp_newarrI X (pc := 150) (N := 1600) (by decide) (by decide +kernel) (by decide) (by decide) (by decide) dX12_init_150 ?_
  refine sp_putR X (pc := 152) (c := 13) (i := 23) (q := 855) (a := x) rfl (Hc143.ty 20 1600) (by decide) rfl rfl (Or.inr ⟨rfl, rfl, rfl⟩)  fl_Mo_60 dX12_init_152 ?_
  obtain ⟨c152, hc152⟩ : ∃ xm, xm = (c143.newA 20 1600).pR 855 x (some c143.nx) := ⟨_, rfl⟩
  rw [← hc152]
  have Hc152 : sp_mi G (sp_Pm P m.nx) m0 x m.nx 17 c152 := by
    rw [hc152]
    exact Hc143.st (by decide) 855 20 1600 rfl rfl rfl
  clear hc152
  refine sp_aload_n X (pc := 155) (r := some x) dX12_init_155 rfl rfl ?_
  refine sp_bipush X (pc := 156) (v := 100) dX12_init_156 (by decide) ?_
  refine sp_newarrI X (pc := 158) (N := 100) (by decide) (by decide +kernel) (by decide) (by decide) (by decide) dX12_init_158 ?_
  refine sp_putR X (pc := 160) (c := 13) (i := 25) (q := 857) (a := x) rfl (Hc152.ty 20 100) (by decide) rfl rfl (Or.inr ⟨rfl, rfl, rfl⟩)  fl_Mo_63 dX12_init_160 ?_
  obtain ⟨c160, hc160⟩ : ∃ xm, xm = (c152.newA 20 100).pR 857 x (some c152.nx) := ⟨_, rfl⟩
  rw [← hc160]
  have Hc160 : sp_mi G (sp_Pm P m.nx) m0 x m.nx 18 c160 := by
    rw [hc160]
    exact Hc152.st (by decide) 857 20 100 rfl rfl rfl
  clear hc160
  refine sp_aload_n X (pc := 163) (r := some x) dX12_init_163 rfl rfl ?_
  refine sp_bipush X (pc := 164) (v := 100) dX12_init_164 (by decide) ?_
  refine sp_newarrI X (pc := 166) (N := 100) (by decide) (by decide +kernel) (by decide) (by decide) (by decide) dX12_init_166 ?_
  refine sp_putR X (pc := 168) (c := 13) (i := 26) (q := 858) (a := x) rfl (Hc160.ty 20 100) (by decide) rfl rfl (Or.inr ⟨rfl, rfl, rfl⟩)  fl_Mo_66 dX12_init_168 ?_
  obtain ⟨c168, hc168⟩ : ∃ xm, xm = (c160.newA 20 100).pR 858 x (some c160.nx) := ⟨_, rfl⟩
  rw [← hc168]
  have Hc168 : sp_mi G (sp_Pm P m.nx) m0 x m.nx 19 c168 := by
    rw [hc168]
    exact Hc160.st (by decide) 858 20 100 rfl rfl rfl
  clear hc168
  refine sp_aload_n X (pc := 171) (r := some x) dX12_init_171 rfl rfl ?_
  refine sp_bipush X (pc := 172) (v := 100) dX12_init_172 (by decide) ?_
  refine sp_newarrI X (pc := 174) (N := 100) (by decide) (by decide +kernel) (by decide) (by decide) (by decide) dX12_init_174 ?_
  refine sp_putR X (pc := 176) (c := 13) (i := 27) (q := 859) (a := x) rfl (Hc168.ty 20 100) (by decide) rfl rfl (Or.inr ⟨rfl, rfl, rfl⟩)  fl_Mo_69 dX12_init_176 ?_
  obtain ⟨c176, hc176⟩ : ∃ xm, xm = (c168.newA 20 100).pR 859 x (some c168.nx) := ⟨_, rfl⟩
  rw [← hc176]
  have Hc176 : sp_mi G (sp_Pm P m.nx) m0 x m.nx 20 c176 := by
    rw [hc176]
    exact Hc168.st (by decide) 859 20 100 rfl rfl rfl
  clear hc176
  refine sp_aload_n X (pc := 179) (r := some x) dX12_init_179 rfl rfl ?_
  refine sp_bipush X (pc := 180) (v := 100) dX12_init_180 (by decide) ?_
  refine sp_newarrL X (pc := 182) (N := 100) (by decide) (by decide +kernel) (by decide) (by decide) (by decide) dX12_init_182 ?_
  refine sp_putR X (pc := 184) (c := 13) (i := 28) (q := 860) (a := x) rfl (Hc176.ty 21 100) (by decide) rfl rfl (Or.inr ⟨rfl, rfl, rfl⟩)  fl_Mo_72 dX12_init_184 ?_
  obtain ⟨c184, hc184⟩ : ∃ xm, xm = (c176.newA 21 100).pR 860 x (some c176.nx) := ⟨_, rfl⟩
  rw [← hc184]
  have Hc184 : sp_mi G (sp_Pm P m.nx) m0 x m.nx 21 c184 := by
    rw [hc184]
    exact Hc176.st (by decide) 860 21 100 rfl rfl rfl
  clear hc184
  refine sp_aload_n X (pc := 187) (r := some x) dX12_init_187 rfl rfl ?_
  refine sp_ldc2 X (pc := 188) (v := 1000000) kl_Mo_75 dX12_init_188 ?_
  refine sp_putL X (pc := 191) (c := 13) (i := 29) (q := 861) (a := x) rfl Hc184.2.2.2.2.1 (by decide) rfl rfl (Or.inl rfl)  fl_Mo_77 dX12_init_191 ?_
  obtain ⟨c191, hc191⟩ : ∃ xm, xm = c184.pL 861 x 1000000 := ⟨_, rfl⟩
  rw [← hc191]
  have Hc191 : sp_mi G (sp_Pm P m.nx) m0 x m.nx 21 c191 := by
    rw [hc191]
    exact Hc184.pL 861 _ (by decide)
  have uc191 : c191.fL 861 x = 1000000 := by rw [hc191, sp_pL_fL, if_pos ⟨rfl, rfl⟩]
  clear hc191
  refine sp_aload_n X (pc := 194) (r := some x) dX12_init_194 rfl rfl ?_
  refine sp_ldc2 X (pc := 195) (v := 4611686018427387904) kl_Mo_81 dX12_init_195 ?_
  refine sp_putL X (pc := 198) (c := 13) (i := 30) (q := 862) (a := x) rfl Hc191.2.2.2.2.1 (by decide) rfl rfl (Or.inl rfl)  fl_Mo_83 dX12_init_198 ?_
  obtain ⟨c198, hc198⟩ : ∃ xm, xm = c191.pL 862 x 4611686018427387904 := ⟨_, rfl⟩
  rw [← hc198]
  have Hc198 : sp_mi G (sp_Pm P m.nx) m0 x m.nx 21 c198 := by
    rw [hc198]
    exact Hc191.pL 862 _ (by decide)
  have uc198 : c198.fL 861 x = 1000000 ∧ c198.fL 862 x = 4611686018427387904 := by
    rw [hc198]
    exact ⟨by rw [sp_pL_fL, if_neg (by omega)]; exact uc191, by rw [sp_pL_fL, if_pos ⟨rfl, rfl⟩]⟩
  clear hc198
  refine sp_aload_n X (pc := 201) (r := some x) dX12_init_201 rfl rfl ?_
  refine sp_sipush X (pc := 202) (v := 160) dX12_init_202 (by decide) ?_
  refine sp_newarrI X (pc := 205) (N := 160) (by decide) (by decide +kernel) (by decide) (by decide) (by decide) dX12_init_205 ?_
  refine sp_putR X (pc := 207) (c := 13) (i := 34) (q := 866) (a := x) rfl (Hc198.ty 20 160) (by decide) rfl rfl (Or.inr ⟨rfl, rfl, rfl⟩)  fl_Mo_86 dX12_init_207 ?_
  obtain ⟨c207, hc207⟩ : ∃ xm, xm = (c198.newA 20 160).pR 866 x (some c198.nx) := ⟨_, rfl⟩
  rw [← hc207]
  have Hc207 : sp_mi G (sp_Pm P m.nx) m0 x m.nx 22 c207 := by
    rw [hc207]
    exact Hc198.st (by decide) 866 20 160 rfl rfl rfl
  have uc207 : c207.fL 861 x = 1000000 ∧ c207.fL 862 x = 4611686018427387904 := by
    rw [hc207]
    exact uc198
  clear hc207
  refine sp_aload_n X (pc := 210) (r := some x) dX12_init_210 rfl rfl ?_
  refine sp_bipush X (pc := 211) (v := 24) dX12_init_211 (by decide) ?_
  refine sp_newarrI X (pc := 213) (N := 24) (by decide) (by decide +kernel) (by decide) (by decide) (by decide) dX12_init_213 ?_
  refine sp_putR X (pc := 215) (c := 13) (i := 36) (q := 868) (a := x) rfl (Hc207.ty 20 24) (by decide) rfl rfl (Or.inr ⟨rfl, rfl, rfl⟩)  fl_Mo_89 dX12_init_215 ?_
  obtain ⟨c215, hc215⟩ : ∃ xm, xm = (c207.newA 20 24).pR 868 x (some c207.nx) := ⟨_, rfl⟩
  rw [← hc215]
  have Hc215 : sp_mi G (sp_Pm P m.nx) m0 x m.nx 23 c215 := by
    rw [hc215]
    exact Hc207.st (by decide) 868 20 24 rfl rfl rfl
  have uc215 : c215.fL 861 x = 1000000 ∧ c215.fL 862 x = 4611686018427387904 := by
    rw [hc215]
    exact uc207
  clear hc215
  refine sp_aload_n X (pc := 218) (r := some x) dX12_init_218 rfl rfl ?_
  refine sp_bipush X (pc := 219) (v := 24) dX12_init_219 (by decide) ?_
  refine sp_newarrI X (pc := 221) (N := 24) (by decide) (by decide +kernel) (by decide) (by decide) (by decide) dX12_init_221 ?_
  refine sp_putR X (pc := 223) (c := 13) (i := 37) (q := 869) (a := x) rfl (Hc215.ty 20 24) (by decide) rfl rfl (Or.inr ⟨rfl, rfl, rfl⟩)  fl_Mo_92 dX12_init_223 ?_
  obtain ⟨c223, hc223⟩ : ∃ xm, xm = (c215.newA 20 24).pR 869 x (some c215.nx) := ⟨_, rfl⟩
  rw [← hc223]
  have Hc223 : sp_mi G (sp_Pm P m.nx) m0 x m.nx 24 c223 := by
    rw [hc223]
    exact Hc215.st (by decide) 869 20 24 rfl rfl rfl
  have uc223 : c223.fL 861 x = 1000000 ∧ c223.fL 862 x = 4611686018427387904 := by
    rw [hc223]
    exact uc215
  clear hc223
  refine sp_aload_n X (pc := 226) (r := some x) dX12_init_226 rfl rfl ?_
  refine sp_iload_n X (pc := 227) (x := r) dX12_init_227 rfl rfl ?_
  refine sp_bipush X (pc := 228) (v := 63) dX12_init_228 (by decide) ?_
  refine sp_iand X (pc := 230) dX12_init_230 ?_
  refine sp_putI X (pc := 231) (c := 13) (i := 0) (q := 832) (a := x) rfl Hc223.2.2.2.2.1 (by decide) rfl rfl (Or.inr ⟨rfl, rfl, rfl⟩) ⟨rfl, rfl⟩ fl_Mo_95 dX12_init_231 ?_
  obtain ⟨c231, hc231⟩ : ∃ xm, xm = c223.pI 832 x (r &&& 63) := ⟨_, rfl⟩
  rw [← hc231]
  have Hc231 : sp_mi G (sp_Pm P m.nx) m0 x m.nx 24 c231 := by
    rw [hc231]
    exact Hc223.pI _
  have zc231 : c231.fI 832 x = (r &&& 63) := by rw [hc231, sp_pI_fI, if_pos ⟨rfl, rfl⟩]
  have uc231 : c231.fL 861 x = 1000000 ∧ c231.fL 862 x = 4611686018427387904 := by
    rw [hc231]
    exact uc223
  clear hc231
  refine sp_pick X [0] (lv' := [(0, false, va_rf (some x))]) rfl ?_
  obtain ⟨B, hB0, hBs, hV, hz⟩ := Hc231.B uc231.1 uc231.2
  have hgo := cut234 B _ _ _ _ c231 zc231 hB0 hBs Hc231.1 Hc231.2.1 Hc231.2.2.1 Hc231.2.2.2.1 hV hz
  rw [hB0] at hgo
  exact hgo
