
def sp_wl (L ed : Nat) : sp_W := (fun k a => (k = 0 ∨ k = 2) ∧ a = L, fun _ _ => False, fun k a => k = 1 ∧ a = L, fun a => a = ed)
theorem sp_fx.dr {m m' : sp_M} {w : sp_W} (h : sp_fx m m' w) (hwf : sp_wf m) {d db n : Nat} (hd : sp_dr m d db n) (h1 : ¬ w.1 129 d) (h2 : ¬ w.2.2.1 128 d) : sp_dr m' d db n := by
  obtain ⟨a1, a2, a3, a4, a5, a6⟩ := hd
  have q1 : d < m.nx := hwf d (by omega)
  have q2 : db < m.nx := hwf db (by omega)
  refine ⟨by rw [(h.2.1 d q1).1]; exact a1, by rw [h.2.2.2.2.1 _ _ q1 h2]; exact a2, by rw [(h.2.1 db q2).1]; exact a3, by rw [(h.2.1 db q2).2]; exact a4, by rw [h.2.2.1 _ _ q1 h1]; exact a5, a6⟩
theorem sp_fx.li {G : sp_G} {m m' : sp_M} {w : sp_W} (h : sp_fx m m' w) (hwf : sp_wf m) {L ed s : Nat} (hd : sp_li G m L ed s) (h1 : ¬ w.1 2 L) (h2 : ¬ w.2.2.1 1 L) : sp_li G m' L ed s := by
  obtain ⟨a1, a2, a3, a4, a5, a6⟩ := hd
  have q1 : L < m.nx := hwf L (by omega)
  have q2 : ed < m.nx := hwf ed (by rcases a6 with z | z <;> omega)
  exact ⟨by rw [(h.2.1 L q1).1]; exact a1, by rw [h.2.2.2.2.1 _ _ q1 h2]; exact a2, by rw [h.2.2.1 _ _ q1 h1]; exact a3, by rw [(h.2.1 ed q2).2]; exact a4, by rw [(h.2.1 ed q2).2]; exact a5, by rw [(h.2.1 ed q2).1, (h.2.1 ed q2).2]; exact a6⟩
theorem sp_fx.ty {m m' : sp_M} {w : sp_W} (h : sp_fx m m' w) (hwf : sp_wf m) {a k : Nat} (ha : m.ty a = k) (hk : k ≠ 0) : m'.ty a = k := by
  rw [(h.2.1 a (hwf a (by rw [ha]; exact hk))).1]; exact ha
theorem sp_fx.ln {m m' : sp_M} {w : sp_W} (h : sp_fx m m' w) (hwf : sp_wf m) {a k : Nat} (ha : m.ty a = k) (hk : k ≠ 0) : m'.ln a = m.ln a := (h.2.1 a (hwf a (by rw [ha]; exact hk))).2
theorem sp_sz_fun {G : sp_G} {m : sp_M} {L ed ed' s s' : Nat} (h : sp_li G m L ed s) (h' : sp_li G m L ed' s') : ed = ed' ∧ s = s' := by
  refine ⟨Option.some.inj (h.2.1.symm.trans h'.2.1), ?_⟩
  exact (nI_eq (by have := h.2.2.2.1; have := h.2.2.2.2.1; omega) (by have := h'.2.2.2.1; have := h'.2.2.2.2.1; omega)).mp (h.2.2.1.symm.trans h'.2.2.1)
theorem sp_J.el {G : sp_G} {P E : Nat → Prop} {m : sp_M} (hJ : sp_J G P E m) {L ed s : Nat} (h : sp_li G m L ed s) (he : ¬ E L) : sp_rl (m.ln L) ∧ ∀ j, j < s → ∃ b, m.aR ed j = some b ∧ sp_ep m (m.ln L) b := by
  obtain ⟨⟨ed', s', h1, h2⟩, h3⟩ := hJ.2.1 L h.1 he
  obtain ⟨rfl, rfl⟩ := sp_sz_fun h h1
  exact ⟨h3, h2⟩
theorem sp_J.elob {G : sp_G} {P E : Nat → Prop} {m : sp_M} (hJ : sp_J G P E m) {L ed s : Nat} (h : sp_li G m L ed s) (he : ¬ E L) : ∀ j, j < s → ∀ y, m.aR ed j = some y → sp_ob m y := by
  intro j hj y hy
  obtain ⟨h1, h2⟩ := hJ.el h he
  obtain ⟨b, q1, q2⟩ := h2 j hj
  cases q1.symm.trans hy
  exact q2.ob h1

/-- a name's bytes -/
def sp_nv (m : sp_M) (nm : Nat) (u : List Int32) : Prop := ∃ b s, sp_nm m nm b s ∧ m.ln b = u.length ∧ ∀ i, i < u.length → m.aI b i = u.getD i 0
theorem sp_nv.gen {m m' : sp_M} {w : sp_W} {nm : Nat} {u : List Int32} (h : sp_nv m nm u) (hwf : sp_wf m) (hf : sp_fx m m' w) (h6 : ¬ w.2.2.1 256 nm) (h7 : ¬ w.2.2.1 257 nm) (ha : ∀ b s, sp_nm m nm b s → ¬ w.2.2.2 b) : sp_nv m' nm u := by
  obtain ⟨b, s, hn, hl, hb⟩ := h
  have hn9 := hn
  obtain ⟨a1, a2, a3, a4, a5, a6, a7⟩ := hn
  have l1 : nm < m.nx := hwf nm (by omega)
  have l2 : b < m.nx := hwf b (by omega)
  have l3 : s < m.nx := hwf s (by omega)
  have e1 := hf.2.1 nm l1
  have e2 := hf.2.1 b l2
  have e3 := hf.2.1 s l3
  refine ⟨b, s, ⟨e1.1.trans a1, (hf.2.2.2.2.1 _ _ l1 h6).trans a2, (hf.2.2.2.2.1 _ _ l1 h7).trans a3, e2.1.trans a4, e3.1.trans a5, by rw [e2.2, e3.2]; exact a6, by rw [e2.2]; exact a7⟩, by rw [e2.2]; exact hl, fun i hi => ?_⟩
  rw [(hf.2.2.2.2.2 b l2 (ha b s hn9)).1]
  exact hb i hi
theorem sp_nv.fx {m m' : sp_M} {w : sp_W} {nm : Nat} {u : List Int32} (h : sp_nv m nm u) (hwf : sp_wf m) (hf : sp_fx m m' w) (h6 : ¬ w.2.2.1 256 nm) (h7 : ¬ w.2.2.1 257 nm) (ha : ∀ a, w.2.2.2 a → m.ty a ≠ 20) : sp_nv m' nm u := h.gen hwf hf h6 h7 (fun b s hn z => ha b z hn.2.2.2.1)
theorem sp_nv.fxP {G : sp_G} {P E : Nat → Prop} {m m' : sp_M} {w : sp_W} {nm : Nat} {u : List Int32} (h : sp_nv m nm u) (hwf : sp_wf m) (hJ : sp_J G P E m) (hE : ¬ E nm) (hf : sp_fx m m' w) (h6 : ¬ w.2.2.1 256 nm) (h7 : ¬ w.2.2.1 257 nm) (ha : ∀ a, w.2.2.2 a → P a) : sp_nv m' nm u := h.gen hwf hf h6 h7 (fun b s hn z => by
  obtain ⟨b', s', ⟨c1, c2, -⟩, n1, -⟩ := hJ.2.2.2.1 nm hn.1 hE
  cases hn.2.1.symm.trans c2
  exact n1 (ha _ z))
theorem sp_nv.det {m : sp_M} {nm : Nat} {u v : List Int32} (h : sp_nv m nm u) (h' : sp_nv m nm v) : u = v := by
  obtain ⟨b, s, ⟨-, a2, -⟩, hl, hb⟩ := h
  obtain ⟨b', s', ⟨-, c2, -⟩, hl', hb'⟩ := h'
  cases a2.symm.trans c2
  exact sp_ext (hl.symm.trans hl') (fun i hi => (hb i hi).symm.trans (hb' i (by rw [← hl', hl]; exact hi)))
set_option maxRecDepth 20000 in
theorem c_Draft_addUnlessPassedOver (l : Launch) (G : sp_G) (m : sp_M) {d db n L ed s f c : Nat} {P E : Nat → Prop} (hG : sp_GS G) (hJ : sp_J G P E m) (hwf : sp_wf m) (hP : ∀ a, P a → a < m.nx) (hE : ∀ a, E a → a < m.nx) (hd : sp_dr m d db n) (hdb : ¬ E d) (hL : sp_li G m L ed s) (heL : ¬ E L) (hrl : m.ln L = 105) (hr : ∀ a, m.ty a = 8 → ¬ E a → m.fR 450 a ≠ some L) (hft : f + c ≤ n) (hcap : m.ln ed ≤ 2 * s + 10) (hs : s ≤ 161) : sp_C l G M_Draft_addUnlessPassedOver 4 (402 + 2 * c) [.ref d, .ref L, .int (nI f), .int (nI (f + c))] m (sp_oV fun m' => sp_J G P E m' ∧ sp_wf m' ∧ sp_fx m m' (sp_wl L ed) ∧ (¬ s < m.ln ed → m'.aR ed = m.aR ed) ∧ (∀ a, a < m.nx → m'.aI a = m.aI a ∧ m'.aL a = m.aL a) ∧ (∀ a, m'.ty a = 8 → m.ty a = 8) ∧ ∃ ed' s', sp_li G m' L ed' s' ∧ s ≤ s' ∧ s' ≤ s + 1 ∧ m'.ln ed' ≤ 2 * s' + 10 ∧ (ed' = ed ∨ m.nx ≤ ed') ∧ (∀ j, j < s → m'.aR ed' j = m.aR ed j) ∧ ((s' = s ∧ ¬ sp_wkk (m.aI db) f c) ∨ (s' = s + 1 ∧ sp_wkk (m.aI db) f c ∧ ∃ nm, m'.aR ed' s = some nm ∧ sp_nv m' nm (sp_seg (m.aI db) f c)))) := by
  refine sp_enter (lv0 := [(0, false, va_rf (some d)), (1, false, va_rf (some L)), (2, false, .int (nI f)), (3, false, .int (nI (f + c)))]) "SafePaths$Draft" false rfl (by decide) (fun h => by cases h) (Nat.le_of_ble_eq_true rfl) rfl ?_
  intro w X
  have hdt := hd.1
  have hdb0 := hd.2.1
  have hdb1 := hd.2.2.1
  have hdb2 := hd.2.2.2.1
  have hn6 := hd.2.2.2.2.2
  have hcl := sp_cap_le (m.ln ed)
  refine sp_iload_n X (pc := 0) (x := nI f) dX1_addUnlessPassedOver_0 rfl rfl ?_
  refine sp_iload_n X (pc := 1) (x := nI (f + c)) dX1_addUnlessPassedOver_1 rfl rfl ?_
  refine sp_icmp_lt X (pc := 2) (tgt := 6) dX1_addUnlessPassedOver_2 (by decide) (fun hb2 => ?_) (fun hb2 => ?_)
  · have hlt : f < f + c := by rcases Nat.lt_or_ge f (f + c) with q | q; exact q; exact absurd hb2 (nI_nlt q (by omega))
    refine sp_new X (pc := 6) (c := 4) (N := 2) (by decide) rfl cl_Draft_32 in_4 it_4 (by decide) (by omega) dX1_addUnlessPassedOver_6 ?_
    have hdn : d < m.nx := hwf d (by omega)
    have hdbn : db < m.nx := hwf db (by omega)
    have hdb4 : (m.newO 4).fR 128 d = some db := by rw [sp_newO_fR, if_neg (by omega)]; exact hdb0
    refine sp_dup X (pc := 9) dX1_addUnlessPassedOver_9 (sp_cat_rf _) ?_
    refine sp_aload_n X (pc := 10) (r := some d) dX1_addUnlessPassedOver_10 rfl rfl ?_
    refine sp_getfield X (pc := 11) (c := 2) (i := 0) (t := 2) (a := d) (v := va_rf (some db)) rfl (by rw [sp_newO_ty, if_neg (by omega)]; exact hdt) (by decide) rfl (congrArg va_rf hdb4) fl_Draft_9 dX1_addUnlessPassedOver_11 ?_
    refine sp_iload_n X (pc := 14) (x := nI f) dX1_addUnlessPassedOver_14 rfl rfl ?_
    refine sp_iload_n X (pc := 15) (x := nI (f + c)) dX1_addUnlessPassedOver_15 rfl rfl ?_
    refine sp_callI X (pc := 16) (mc := 2) (ms := 2 * c) (b := m.nx) (r := some m.nx) (As := [va_rf (some db), .int (nI f), .int (nI (f + c))]) (rest := [va_rf (some m.nx)]) (c_Name_init l G _ (o := m.nx) (a1 := db) (f := f) (n := c) (by rw [sp_newO_ty, if_pos rfl]) (by left; rw [sp_newO_ty, if_neg (by omega)]; exact hdb1) (by show m.ln db ≤ _; omega) (by show _ ≤ m.ln db; omega)) ok_Name_init rfl rfl lk_Draft_34 rfl rfl (by simp [sp_cat_rf, sp_cat_i, sp_cat_l]) (Nat.le_of_ble_eq_true rfl) (Nat.le_of_ble_eq_true rfl) (by decide) (by omega) dX1_addUnlessPassedOver_16 (sp_kV fun m16 hp16 => ?_)
    subst hp16
    have hz := hwf.z
    have hwo := hwf.newO 4
    have hno : (m.newO 4).ty m.nx = 5 := by rw [sp_newO_ty, if_pos rfl]
    have hJo : sp_J G P (sp_E1 E m.nx) (m.newO 4) := by
      have h9 := hJ.newO hwf 4 (m.ln m.nx)
      rw [show (m.newO 4).gh m.nx (m.ln m.nx) = m.newO 4 by
        refine sp_M_ext rfl rfl ?_ rfl rfl rfl rfl rfl rfl
        funext b
        rw [sp_gh_ln]
        split
        · rename_i q; rw [q]; rfl
        · rfl] at h9
      exact h9
    obtain ⟨m1, hm1⟩ : ∃ m1, m1 = sp_mkN (m.newO 4) m.nx c (fun j => (m.newO 4).aI db (f + j)) := ⟨_, rfl⟩
    have hJ1 : sp_J G P E m1 := by
      rw [hm1]
      exact hJo.mkN hwo hno (fun a q => by have := hP a q; rw [sp_newO_nx]; omega) _ (by omega) _
    have hw1 : sp_wf m1 := by rw [hm1]; exact hwo.mkN _ _ _
    have hfx : sp_fx m m1 sp_w0 := by rw [hm1]; exact ((sp_fx.refl m sp_w0).newO 4).mkN (Nat.le_refl _) _ _
    have hnm : sp_nm m1 m.nx (m.nx + 1) (m.nx + 1 + 1) := by rw [hm1]; exact sp_mkN_nm _ _ _ _ hno (by rw [sp_newO_nx]; omega) (by omega)
    have hL1 : sp_li G m1 L ed s := hfx.li hwf hL (fun z => z) (fun z => z)
    have hled : m1.ln ed = m.ln ed := by
      have := hL.2.2.2.2.2
      exact (hfx.2.1 ed (hwf ed (by omega))).2
    have hnoE : ¬ E m.nx := fun q => by have := hE _ q; omega
    have hpt : ∀ a, m1.ty a = 8 → m.ty a = 8 := fun a h9 => by
      rw [hm1, sp_mkN_ty] at h9
      split at h9
      · omega
      · split at h9
        · omega
        · rw [sp_newO_ty] at h9
          split at h9
          · omega
          · exact h9
    have haRed : m1.aR ed = m.aR ed := by
      have := hL.2.2.2.2.2
      exact (hfx.2.2.2.2.2 ed (hwf ed (by omega)) (fun z => z)).2.2
    have hlnb : m1.ln (m.nx + 1) = c := by rw [hm1, sp_mkN_ln, if_neg (by rw [sp_newO_nx]; omega), if_pos (by rw [sp_newO_nx])]
    have haIb : ∀ j, j < c → m1.aI (m.nx + 1) j = m.aI db (f + j) := fun j hj => by
      rw [hm1, sp_mkN_aI, if_neg (by rw [sp_newO_nx]; omega), if_pos (by rw [sp_newO_nx]), if_pos hj]
      rfl
    have hnv1 : sp_nv m1 m.nx (sp_seg (m.aI db) f c) := ⟨_, _, hnm, by rw [hlnb, sp_seg_len], fun i hi => by
      rw [sp_seg_len] at hi
      rw [haIb i hi, sp_seg_get _ _ _ hi]⟩
    rw [show sp_mkN (m.newO 4) m.nx c (fun j => (m.newO 4).aI db (f + j)) = m1 from hm1.symm]
    refine sp_astore X (pc := 19) (lv' := [(4, false, va_rf (some m.nx)), (0, false, va_rf (some d)), (1, false, va_rf (some L)), (2, false, .int (nI f)), (3, false, .int (nI (f + c)))]) dX1_addUnlessPassedOver_19  (by decide) rfl ?_
    refine sp_aload X (pc := 21) (r := some m.nx) dX1_addUnlessPassedOver_21 rfl ?_
    refine sp_callV X (pc := 23) (mc := 0) (ms := 0) (b := m.nx) (c := 4) (r := some m.nx) (As := []) (rest := []) (c_Name_isStay l G _ hnm) ok_Name_isStay rfl hnm.1 (by decide) rfl lk_Draft_37 rfl rfl (Nat.zero_le _) (Nat.le_of_ble_eq_true rfl) (Nat.le_of_ble_eq_true rfl) (Nat.zero_le _) (Nat.zero_le _) dX1_addUnlessPassedOver_23 (sp_kI fun v23 m23 hp23 => ?_)
    obtain ⟨hp23, hp23m⟩ := hp23; replace hp23m := (hp23m).symm; subst hp23m
    refine sp_if_ne X (pc := 26) (tgt := 36) dX1_addUnlessPassedOver_26 (by decide) (fun hb26 => ?_) (fun hb26 => ?_)
    · refine sp_return X (pc := 36) dX1_addUnlessPassedOver_36 ⟨rfl, ?_⟩
      first
        | exact ⟨hJ1, hw1, hfx.mono (fun _ _ _ z => z.elim) (fun _ _ _ z => z.elim) (fun _ _ _ z => z.elim) (fun _ _ z => z.elim), fun _ => haRed, fun a ha => ⟨(hfx.2.2.2.2.2 a ha (fun z => z)).1, (hfx.2.2.2.2.2 a ha (fun z => z)).2.1⟩, hpt, ed, s, hL1, Nat.le_refl _, by omega, by omega, Or.inl rfl, fun j _ => by rw [haRed], Or.inl ⟨rfl, fun z => z.2 (by have q9 := hp23.ne hb26; have c1 : c = 1 := hlnb.symm.trans q9.1; exact ⟨c1, (haIb 0 (by omega)).symm.trans q9.2⟩)⟩⟩
        | (have hlL : m1.ln L = 105 := by rw [hfx.ln hwf hL.1 (by decide)]; exact hrl
           have hr1 : ∀ a, m1.ty a = 8 → ¬ E a → m1.fR 450 a ≠ some L := fun a h1 h2 => by
             have h3 := hpt a h1
             rw [hfx.2.2.2.2.1 _ _ (hwf a (by omega)) (fun z => z)]
             exact hr a h3 h2
           have hJ2 := hJ1.add hw1 hL1 heL hr1 (by rw [hlL]; exact ⟨hnm.1, fun z => by omega⟩) had
           have hfx2 : sp_fx m m32 (sp_wl L ed) := sp_fx.ad (hfx.mono (fun _ _ _ z => z.elim) (fun _ _ _ z => z.elim) (fun _ _ _ z => z.elim) (fun _ _ z => z.elim)) had (Or.inr ⟨⟨Or.inl rfl, rfl⟩, ⟨Or.inr rfl, rfl⟩, ⟨rfl, rfl⟩⟩) (Or.inr (Or.inl rfl))
           have hw2 := hw1.ad had
           have hnv2 : sp_nv m32 m.nx (sp_seg (m.aI db) f c) := hnv1.fx hw1 (sp_fx.ad (sp_fx.refl m1 (sp_wl L ed)) had (Or.inr ⟨⟨Or.inl rfl, rfl⟩, ⟨Or.inr rfl, rfl⟩, ⟨rfl, rfl⟩⟩) (Or.inr (Or.inl rfl))) (fun z => absurd z.1 (by decide)) (fun z => absurd z.1 (by decide)) (fun a z => by have z : a = ed := z; have := hL1.2.2.2.2.2; rw [z]; omega)
           obtain ⟨ed', q1, q2, q3, q4, q5, q6, q7, q8, q9⟩ := had
           refine ⟨hJ2, hw2, hfx2, fun hns => ?_, fun a ha => ?_, fun a h1 => ?_, ed', s + 1, q1, by omega, by omega, ?_, ?_, fun j hj => by rw [q2 j hj, haRed], Or.inr ⟨rfl, ⟨by omega, fun z => (hp23.eq hb26) ⟨hlnb.trans z.1, (haIb 0 (by omega)).trans z.2⟩⟩, m.nx, q3, hnv2⟩⟩
           · rw [q9 ed (Or.inr (by omega)) (by have := hw1.z; intro z; have h9 := hL1.2.2.2.2.2; rw [z] at h9; omega)]
             exact haRed
           · have r := hfx.2.2.2.2.2 a ha (fun z => z)
             have q := q8 a (by have := hfx.1; omega)
             exact ⟨q.1.trans r.1, q.2.trans r.2.1⟩
           · rcases q4 with q | q
             · rw [q.2.2.2.1] at h1; exact hpt a h1
             · rw [q.2.2.2.1] at h1
               unfold sp_u1 at h1
               split at h1
               · omega
               · exact hpt a h1
           · rcases q4 with q | q
             · rw [q.2.2.2.2, q.2.1, hled]; omega
             · rw [q.2.2.2.2, q.2.1]
               unfold sp_u1
               rw [if_pos rfl, hled]
               have := hL.2.2.2.1
               have := q.1
               omega
           · have := hfx.1
             rcases q4 with q | q
             · exact Or.inl q.2.1
             · right; omega)
    · refine sp_aload_n X (pc := 29) (r := some L) dX1_addUnlessPassedOver_29 rfl rfl ?_
      refine sp_aload X (pc := 30) (r := some m.nx) dX1_addUnlessPassedOver_30 rfl ?_
      refine sp_callV X (pc := 32) (mc := (if s < m1.ln ed then 0 else 1)) (ms := (if s < m1.ln ed then 0 else sp_cap (m1.ln ed))) (b := L) (c := 0) (r := some L) (As := [va_rf (some m.nx)]) (rest := []) (c_List_add1 l G _ (o := L) (ed := ed) (s := s) (b := m.nx) hG hL1 hw1 (by omega) (hJ1.elob hL1 heL) ⟨4, hnm.1, by decide, ca_4⟩) ok_List_add1 rfl hL1.1 (by decide) rfl lk_Draft_41 rfl rfl (Nat.zero_le _) (Nat.le_of_ble_eq_true rfl) (Nat.le_of_ble_eq_true rfl) (by split <;> omega) (by rw [hled]; split <;> omega) dX1_addUnlessPassedOver_32 (sp_kI fun v32 m32 hp32 => ?_)
      obtain ⟨hv32, had⟩ := hp32
      refine sp_pop X (pc := 35) dX1_addUnlessPassedOver_35 rfl ?_
      refine sp_return X (pc := 36) dX1_addUnlessPassedOver_36 ⟨rfl, ?_⟩
      first
        | exact ⟨hJ1, hw1, hfx.mono (fun _ _ _ z => z.elim) (fun _ _ _ z => z.elim) (fun _ _ _ z => z.elim) (fun _ _ z => z.elim), fun _ => haRed, fun a ha => ⟨(hfx.2.2.2.2.2 a ha (fun z => z)).1, (hfx.2.2.2.2.2 a ha (fun z => z)).2.1⟩, hpt, ed, s, hL1, Nat.le_refl _, by omega, by omega, Or.inl rfl, fun j _ => by rw [haRed], Or.inl ⟨rfl, fun z => z.2 (by have q9 := hp23.ne hb26; have c1 : c = 1 := hlnb.symm.trans q9.1; exact ⟨c1, (haIb 0 (by omega)).symm.trans q9.2⟩)⟩⟩
        | (have hlL : m1.ln L = 105 := by rw [hfx.ln hwf hL.1 (by decide)]; exact hrl
           have hr1 : ∀ a, m1.ty a = 8 → ¬ E a → m1.fR 450 a ≠ some L := fun a h1 h2 => by
             have h3 := hpt a h1
             rw [hfx.2.2.2.2.1 _ _ (hwf a (by omega)) (fun z => z)]
             exact hr a h3 h2
           have hJ2 := hJ1.add hw1 hL1 heL hr1 (by rw [hlL]; exact ⟨hnm.1, fun z => by omega⟩) had
           have hfx2 : sp_fx m m32 (sp_wl L ed) := sp_fx.ad (hfx.mono (fun _ _ _ z => z.elim) (fun _ _ _ z => z.elim) (fun _ _ _ z => z.elim) (fun _ _ z => z.elim)) had (Or.inr ⟨⟨Or.inl rfl, rfl⟩, ⟨Or.inr rfl, rfl⟩, ⟨rfl, rfl⟩⟩) (Or.inr (Or.inl rfl))
           have hw2 := hw1.ad had
           have hnv2 : sp_nv m32 m.nx (sp_seg (m.aI db) f c) := hnv1.fx hw1 (sp_fx.ad (sp_fx.refl m1 (sp_wl L ed)) had (Or.inr ⟨⟨Or.inl rfl, rfl⟩, ⟨Or.inr rfl, rfl⟩, ⟨rfl, rfl⟩⟩) (Or.inr (Or.inl rfl))) (fun z => absurd z.1 (by decide)) (fun z => absurd z.1 (by decide)) (fun a z => by have z : a = ed := z; have := hL1.2.2.2.2.2; rw [z]; omega)
           obtain ⟨ed', q1, q2, q3, q4, q5, q6, q7, q8, q9⟩ := had
           refine ⟨hJ2, hw2, hfx2, fun hns => ?_, fun a ha => ?_, fun a h1 => ?_, ed', s + 1, q1, by omega, by omega, ?_, ?_, fun j hj => by rw [q2 j hj, haRed], Or.inr ⟨rfl, ⟨by omega, fun z => (hp23.eq hb26) ⟨hlnb.trans z.1, (haIb 0 (by omega)).trans z.2⟩⟩, m.nx, q3, hnv2⟩⟩
           · rw [q9 ed (Or.inr (by omega)) (by have := hw1.z; intro z; have h9 := hL1.2.2.2.2.2; rw [z] at h9; omega)]
             exact haRed
           · have r := hfx.2.2.2.2.2 a ha (fun z => z)
             have q := q8 a (by have := hfx.1; omega)
             exact ⟨q.1.trans r.1, q.2.trans r.2.1⟩
           · rcases q4 with q | q
             · rw [q.2.2.2.1] at h1; exact hpt a h1
             · rw [q.2.2.2.1] at h1
               unfold sp_u1 at h1
               split at h1
               · omega
               · exact hpt a h1
           · rcases q4 with q | q
             · rw [q.2.2.2.2, q.2.1, hled]; omega
             · rw [q.2.2.2.2, q.2.1]
               unfold sp_u1
               rw [if_pos rfl, hled]
               have := hL.2.2.2.1
               have := q.1
               omega
           · have := hfx.1
             rcases q4 with q | q
             · exact Or.inl q.2.1
             · right; omega)
  · refine sp_return X (pc := 5) dX1_addUnlessPassedOver_5 ⟨rfl, ?_⟩
    exact ⟨hJ, hwf, sp_fx.refl _ _, fun _ => rfl, fun a _ => ⟨rfl, rfl⟩, fun a h => h, ed, s, hL, Nat.le_refl _, by omega, hcap, Or.inl rfl, fun j _ => rfl, Or.inl ⟨rfl, fun z => hb2 (nI_lt (by have := z.1; omega) (by omega))⟩⟩
