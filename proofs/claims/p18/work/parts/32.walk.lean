
theorem sp_ix15 : sp_ix 15 := by unfold sp_ix; omega
theorem sp_ix16 : sp_ix 16 := by unfold sp_ix; omega
def sp_15 (j : Nat) : Prop := j = 15 ∨ j = 706 ∨ j = 707 ∨ j = 708
def sp_T0 (_ : Nat) : Prop := False
theorem sp_15.l : sp_15 15 := Or.inl rfl
theorem sp_15.f : sp_15 706 := Or.inr (Or.inl rfl)
theorem sp_15.b : sp_15 707 := Or.inr (Or.inr (Or.inl rfl))
theorem sp_15.p : sp_15 708 := Or.inr (Or.inr (Or.inr rfl))
/-- the room of a list after n more elements -/
def sp_gw : Nat → Nat → Nat → Nat
  | 0, _, c => c
  | n + 1, s, c => sp_gw n (s + 1) (if s < c then c else sp_cap c)
theorem sp_gw_ge : ∀ n s c, c ≤ sp_gw n s c
  | 0, _, _ => Nat.le_refl _
  | n + 1, s, c => by
    have h := sp_gw_ge n (s + 1) (if s < c then c else sp_cap c)
    have := sp_cap_gt c
    show c ≤ sp_gw n (s + 1) (if s < c then c else sp_cap c)
    split at h
    · rw [if_pos (by assumption)]; exact h
    · rw [if_neg (by assumption)]; omega
theorem sp_gw_le : ∀ n s c B, s ≤ c → c ≤ B → 2 * (s + n) + 10 ≤ B → sp_gw n s c ≤ B
  | 0, _, _, _, _, h, _ => h
  | n + 1, s, c, B, h1, h2, h3 => by
    show sp_gw n (s + 1) (if s < c then c else sp_cap c) ≤ B
    have q1 := sp_cap_gt c
    have q2 := sp_cap_le c
    split
    · exact sp_gw_le n (s + 1) c B (by omega) h2 (by omega)
    · exact sp_gw_le n (s + 1) (sp_cap c) B (by omega) (by omega) (by omega)
theorem sp_gw_c (c : Nat) : sp_cap c ≤ 4 * (sp_cap c - c) := by
  unfold sp_cap
  split <;> omega
def sp_np (m : sp_M) (t : Nat) : Nat := match m.fR 450 t with
  | none => 0
  | some L => (m.fI 2 L).toNatClampNeg
theorem sp_pt.np {G : sp_G} {m : sp_M} {p L ed s : Nat} (h : sp_pt G m p L ed s) : sp_np m p = s := by
  unfold sp_np
  rw [h.2.1]
  show (m.fI 2 L).toNatClampNeg = s
  rw [h.2.2.1.2.2.1]
  exact nI_clamp (by have := h.2.2.2.2.2.1; have := h.2.2.2.2.2.2; omega)
/-- what going to a node costs -/
def sp_gk (m : sp_M) (lp : Nat) (r : Option Nat) (s c : Nat) : Nat := match r with
  | none => 0
  | some b => if lp < 20 ∧ m.fI 325 b = 0 then (match m.fR 324 b with
    | none => 0
    | some t => sp_gw (sp_np m t) s c - c) else 0
theorem sp_gk_le {G : sp_G} {P : Nat → Prop} {A : Nat → Nat} {m : sp_M} (hI : sp_I G P A m) {lp s c : Nat} {r : Option Nat} (hr : ∀ b, r = some b → m.ty b = 6) (hs : s ≤ 161 * (lp + 1)) (hl : lp ≤ 20) (hsc : s ≤ c) (hc : c ≤ 6810) : c + sp_gk m lp r s c ≤ 6810 := by
  unfold sp_gk
  cases r with
  | none => exact hc
  | some b =>
    show c + (if lp < 20 ∧ m.fI 325 b = 0 then _ else 0) ≤ 6810
    split
    · cases ht : m.fR 324 b with
      | none => exact hc
      | some t =>
        show c + (sp_gw (sp_np m t) s c - c) ≤ 6810
        have h1 := (hI.J.2.2.2.2.1 b (hr b rfl) (sp_e0 _)).2.2.2 t ht
        obtain ⟨L, ed, n, hp⟩ := hI.J.pt h1
        have := hp.2.2.2.2.2.1
        have := hp.2.2.2.2.2.2
        rw [hp.np]
        have := sp_gw_le n s c 6810 hsc hc (by omega)
        omega
    · exact hc
theorem sp_m1 {c : Nat} (h : c < 2 ^ 31) (hb : nI c - 1 < 0) : c = 0 := by
  cases c with
  | zero => rfl
  | succ d => rw [nI_pred] at hb; exact absurd hb (nI_pos (by omega))
theorem sp_m2 (d : Nat) : nI (d + 1) - 1 + -1 = nI d - 1 := by
  rw [nI_pred, Int32.sub_eq_add_neg]
theorem sp_up6 {G : sp_G} {P : Nat → Prop} {m : sp_M} (hJ : sp_J G P sp_E0 m) {a : Nat} (ha : m.ty a = 6) : ∃ u, (if m.fR 321 a = none then some a else m.fR 321 a) = some u ∧ m.ty u = 6 := by
  cases h : m.fR 321 a with
  | none => exact ⟨a, by rw [if_pos rfl], ha⟩
  | some u => exact ⟨u, by rw [if_neg (by simp)], ((hJ.2.2.2.2.1 a ha (sp_e0 _)).1 u h).1⟩
theorem sp_li.pI {G : sp_G} {m : sp_M} {L ed s k a : Nat} {v : Int32} (h : sp_li G m L ed s) (hk : k ≠ 2) : sp_li G (m.pI k a v) L ed s := ⟨h.1, h.2.1, by rw [sp_pI_fI, if_neg (by omega)]; exact h.2.2.1, h.2.2.2⟩
theorem sp_li.pL {G : sp_G} {m : sp_M} {L ed s k a : Nat} {v : Int64} (h : sp_li G m L ed s) : sp_li G (m.pL k a v) L ed s := h
theorem sp_li.pR {G : sp_G} {m : sp_M} {L ed s k a : Nat} {v : Option Nat} (h : sp_li G m L ed s) (hk : k ≠ 1) : sp_li G (m.pR k a v) L ed s := ⟨h.1, by rw [sp_pR_fR, if_neg (by omega)]; exact h.2.1, h.2.2⟩
/-- the names ahead, the next one first -/
def sp_ah (G : sp_G) (m : sp_M) (A : Nat → Nat) (e : Nat) (rs : List (List Int32)) : Prop := sp_li G m (A 15) e rs.length ∧ ∀ k, k < rs.length → ∃ nm, m.aR e k = some nm ∧ sp_nv m nm (rs.getD (rs.length - 1 - k) [])
theorem sp_ah.cons {G : sp_G} {P : Nat → Prop} {A : Nat → Nat} {m m' : sp_M} {e b : Nat} {u : List Int32} {rs : List (List Int32)} (h : sp_ah G m A e rs) (hI : sp_I G P A m) (hb : sp_nv m b u) (had : sp_ad G m (A 15) e rs.length b m') : ∀ e', sp_li G m' (A 15) e' (rs.length + 1) → sp_ah G m' A e' (u :: rs) := by
  intro e' he'
  have hF := (sp_F.refl m A (fun _ => True)).ad hI.J h.1 had sp_ix15 trivial
  obtain ⟨e2, q1, q2, q3, -⟩ := had
  obtain ⟨rfl, -⟩ := sp_sz_fun q1 he'
  refine ⟨he', fun k hk => ?_⟩
  rw [List.length_cons] at hk ⊢
  rcases Nat.lt_or_ge k rs.length with z | z
  · obtain ⟨nm, w1, w2⟩ := h.2 k z
    refine ⟨nm, by rw [q2 k z]; exact w1, ?_⟩
    rw [show rs.length + 1 - 1 - k = (rs.length - 1 - k) + 1 by omega]
    exact w2.F hI.wf hF
  · obtain rfl : k = rs.length := by omega
    refine ⟨b, q3, ?_⟩
    rw [show rs.length + 1 - 1 - rs.length = 0 by omega]
    exact hb.F hI.wf hF
theorem sp_ah.F {G : sp_G} {P : Nat → Prop} {A : Nat → Nat} {m m' : sp_M} {Q : Nat → Prop} {e : Nat} {rs : List (List Int32)} (h : sp_ah G m A e rs) (hI : sp_I G P A m) (hF : sp_F m m' A Q) (hQ : ¬ Q 15) : sp_ah G m' A e rs ∧ m'.ln e = m.ln e := by
  have q := hF.el hI sp_ix15 hQ h.1
  refine ⟨⟨q.1, fun k hk => ?_⟩, q.2.2⟩
  obtain ⟨nm, w1, w2⟩ := h.2 k hk
  exact ⟨nm, by rw [q.2.1]; exact w1, w2.F hI.wf hF⟩
theorem sp_ah.rm {G : sp_G} {P : Nat → Prop} {A : Nat → Nat} {m m' : sp_M} {e : Nat} {u : List Int32} {rs : List (List Int32)} (h : sp_ah G m A e (u :: rs)) (hI : sp_I G P A m) (hl : sp_li G m' (A 15) e rs.length) (hF : sp_F m m' A sp_15) (ha : ∀ j, j < rs.length → m'.aR e j = m.aR e j) : sp_ah G m' A e rs := by
  refine ⟨hl, fun k hk => ?_⟩
  obtain ⟨nm, w1, w2⟩ := h.2 k (by rw [List.length_cons]; omega)
  refine ⟨nm, by rw [ha k hk]; exact w1, ?_⟩
  rw [List.length_cons, show rs.length + 1 - 1 - k = (rs.length - 1 - k) + 1 by omega] at w2
  exact w2.F hI.wf hF
theorem sp_ah.hd {G : sp_G} {A : Nat → Nat} {m : sp_M} {e : Nat} {u : List Int32} {rs : List (List Int32)} (h : sp_ah G m A e (u :: rs)) : ∃ nm, m.aR e rs.length = some nm ∧ sp_nv m nm u := by
  obtain ⟨nm, w1, w2⟩ := h.2 rs.length (by rw [List.length_cons]; omega)
  rw [List.length_cons, show rs.length + 1 - 1 - rs.length = 0 by omega] at w2
  exact ⟨nm, w1, w2⟩
def sp_W3 (j : Nat) : Prop := j = 706 ∨ j = 707 ∨ j = 708
theorem sp_W3.m {j : Nat} : sp_W3 j → sp_15 j := Or.inr
theorem sp_W3.n : ¬ sp_W3 15 := by unfold sp_W3; omega
theorem sp_15.n9 : ¬ sp_15 9 := by unfold sp_15; omega
theorem sp_15.n6 : ¬ sp_15 326 := by unfold sp_15; omega
theorem sp_15.n7 : ¬ sp_15 327 := by unfold sp_15; omega
theorem sp_F.w3 {m m' : sp_M} {A : Nat → Nat} (h : sp_F m m' A sp_W3) : sp_F m m' A sp_15 := (sp_F.refl m A sp_15).trans h (fun _ => sp_W3.m)
theorem sp_drop {us : List (List Int32)} {d : Nat} (h : d < us.length) : us.drop d = us.getD d [] :: us.drop (d + 1) := by
  rw [List.getD_eq_getElem?_getD, List.getElem?_eq_getElem h]
  exact List.drop_eq_getElem_cons h
/-- where the walk is -/
def sp_ws (G : sp_G) (m : sp_M) (A NA : Nat → Nat) (n e f bl lk : Nat) (rs : List (List Int32)) : Prop := (m.fR 706 (A 6) = some (NA f) ∧ f < n) ∧ m.fI 707 (A 6) = nI bl ∧ m.fI 708 (A 6) = nI lk ∧ sp_ah G m A e rs
theorem nI_m4 {j : Nat} (h : j < 2 ^ 31) : ¬ nI j = -4 := fun z => by
  have := nI_pos h
  rw [z] at this
  exact this (by decide)
set_option maxHeartbeats 1000000 in
set_option maxRecDepth 20000 in
theorem c_Walk_begin (l : Launch) (G : sp_G) (m : sp_M) {P : Nat → Prop} {A : Nat → Nat} (hG : sp_GS G) (hI : sp_I G P A m) {R : Int32} {TT : Nat → List Int32} {n nb0 nt0 : Nat} {T : pu_N} {NA BA : Nat → Nat} (hN : sp_cN G m A R TT n T NA BA) (hW : pu_W n nb0 nt0 T) {p num L edp sp fi ed : Nat} {us rs : List (List Int32)} (hp : sp_pt G m p L edp sp) (hpv : sp_pv G m p num us) (hfi : fi < n) (hah : sp_ah G m A ed rs) (hs : rs.length + sp ≤ 3400) : sp_C l G M_Walk_begin (sp_gw sp rs.length (m.ln ed) - m.ln ed) (4 * (sp_gw sp rs.length (m.ln ed) - m.ln ed)) [.ref (A 6), .ref p, .ref (NA fi)] m (sp_oV fun m' => sp_I G P A m' ∧ sp_F m m' A sp_15 ∧ (∀ k a, k ≠ 0 → k ≠ 2 → a < m.nx → m'.fI k a = m.fI k a) ∧ ∃ ed' ff, sp_ah G m' A ed' (us ++ rs) ∧ m'.ln ed' = sp_gw sp rs.length (m.ln ed) ∧ (m'.fR 706 (A 6) = some (NA ff) ∧ ff < n) ∧ ((¬ m.fI 449 p = 0 ∧ ff = 0) ∨ (m.fI 449 p = 0 ∧ ff = fi))) := by
  refine sp_enter (lv0 := [(0, false, va_rf (some (A 6))), (1, false, va_rf (some p)), (2, false, va_rf (some (NA fi)))]) "SafePaths$Walk" false rfl (by decide) (fun h => by cases h) (Nat.le_of_ble_eq_true rfl) rfl ?_
  intro w X
  have hS := hI.S
  have hp8 := hp.1
  have t5 := hS.k 5 11 (by decide)
  have t6 := hS.k 6 12 (by decide)
  have t11 := hS.k 11 6 (by decide)
  have hli := hah.1
  have hN0 := hN.2.1.1
  have hn4 := hW.1.1
  have hfit := (hN.2.2 fi hfi).1
  obtain ⟨s, hsl⟩ : ∃ s, s = rs.length := ⟨_, rfl⟩
  rw [← hsl] at hli hs ⊢
  have hus := (hpv.pt hp).1
  have hsp : sp ≤ 161 := by have := hp.2.2.2.2.2.1; have := hp.2.2.2.2.2.2; omega
  have cut19 : ∀ (ff : Nat), ff < n → ((¬ m.fI 449 p = 0 ∧ ff = 0) ∨ (m.fI 449 p = 0 ∧ ff = fi)) → w (sp_gw sp s (m.ln ed) - m.ln ed) (4 * (sp_gw sp s (m.ln ed) - m.ln ed)) m 19 [(0, false, va_rf (some (A 6))), (1, false, va_rf (some p)), (2, false, va_rf (some (NA fi)))] [va_rf (some (NA ff)), va_rf (some (A 6))] := by
    intro ff hff hfc
    refine sp_putR X (pc := 19) (c := 11) (i := 2) (q := 706) (a := (A 6)) rfl (by first | assumption | omega) (by decide) rfl rfl (Or.inl rfl)  fl_Walk_28 dX10_begin_19 ?_
    have hfo : m.ty (NA ff) = 6 := (hN.2.2 ff hff).1
    have I1 : sp_I G P A (m.pR 706 (A 6) (some (NA ff))) := hI.pR (Or.inl rfl) (fun x hx => by cases hx; rw [if_neg (by decide)]; exact hfo) (fun _ => by simp)
    have F3 : sp_F m (m.pR 706 (A 6) (some (NA ff))) A sp_W3 := (sp_F.refl m A sp_W3).pR (Or.inl rfl) (Or.inl rfl)
    have F1 : sp_F m (m.pR 706 (A 6) (some (NA ff))) A sp_15 := F3.w3
    have ah1 := (hah.F hI F3 sp_W3.n).1
    have hpm : sp_pt G (m.pR 706 (A 6) (some (NA ff))) p L edp sp := F1.pt hI I1 hp
    refine sp_aload_n X (pc := 22) (r := some p) dX10_begin_22 rfl rfl ?_
    refine sp_callV X (pc := 23) (mc := 0) (ms := 0) (b := p) (c := 7) (r := some p) (As := []) (rest := []) (c_Parted_count l G _ hpm) ok_Parted_count rfl hpm.1 (by decide) rfl lk_Walk_91 rfl rfl (Nat.zero_le _) (Nat.le_of_ble_eq_true rfl) (Nat.le_of_ble_eq_true rfl) (Nat.zero_le _) (Nat.zero_le _) dX10_begin_23 (sp_kI fun v23 m23 hp23 => ?_)
    obtain ⟨hp23v, hp23⟩ := hp23; replace hp23 := (hp23).symm; subst hp23; replace hp23v := (hp23v).symm; subst hp23v
    refine sp_iconst X (pc := 26) (v := 1) dX10_begin_26 (by decide) ?_
    refine sp_isub X (pc := 27) dX10_begin_27 ?_
    refine sp_istore_n X (pc := 28) (lv' := [(3, false, .int ((nI sp) - 1)), (0, false, va_rf (some (A 6))), (1, false, va_rf (some p)), (2, false, va_rf (some (NA fi)))]) dX10_begin_28 rfl (by decide) rfl ?_
    have loop29 : ∀ (dz : Nat) (mm : sp_M) (c e t kk nn ff : Nat), sp_I G P A mm → sp_F m mm A sp_15 → (∀ k a, k ≠ 0 → k ≠ 2 → a < m.nx → mm.fI k a = m.fI k a) → sp_pt G mm p L edp sp → sp_li G mm (A 15) e t → t + c = s + sp → sp_gw c t (mm.ln e) = sp_gw sp s (m.ln ed) → sp_gw c t (mm.ln e) - mm.ln e ≤ kk → 4 * (sp_gw c t (mm.ln e) - mm.ln e) ≤ nn → c ≤ sp → sp_ah G mm A e (us.drop c ++ rs) → mm.fR 706 (A 6) = some (NA ff) → ff < n → ((¬ m.fI 449 p = 0 ∧ ff = 0) ∨ (m.fI 449 p = 0 ∧ ff = fi)) → c = dz → w kk nn mm 29 [(0, false, va_rf (some (A 6))), (1, false, va_rf (some p)), (3, false, .int (nI c - 1))] [] := by
      intro dz
      induction dz using Nat.strongRecOn with
      | ind dz ih =>
        intro mm c e t kk nn ff I9 F9 i9 hp9 li9 ht9 g9 hk9 hn9 hc9 ah9 fo9 hff hfc hdz
        have hS9 := I9.S
        have u5 := hS9.k 5 11 (by decide)
        have u6 := hS9.k 6 12 (by decide)
        have u15 := hS9.k 15 1 (by decide)
        have hcap9 : mm.ln e ≤ 6810 := by
          obtain ⟨-, e0, t0, z1, z2, -, -⟩ := hS9.2.2.1 15 sp_ix15
          obtain ⟨rfl, rfl⟩ := sp_sz_fun z1 li9
          exact z2
        refine sp_iload_n X (pc := 29) (x := (nI c - 1)) dX10_begin_29 rfl rfl ?_
        refine sp_if_lt X (pc := 30) (tgt := 52) dX10_begin_30 (by decide) (fun hb30 => ?_) (fun hb30 => ?_)
        · have hc0 : c = 0 := sp_m1 (by omega) hb30
          refine sp_return X (pc := 52) dX10_begin_52 ⟨rfl, ?_⟩
          subst hc0
          exact ⟨I9, F9, i9, e, ff, ah9, by rw [← hsl]; exact g9, ⟨fo9, hff⟩, hfc⟩
        · obtain ⟨d, hd⟩ : ∃ d, c = d + 1 := ⟨c - 1, by
            have : c ≠ 0 := fun z => hb30 (by rw [z]; decide)
            omega⟩
          subst hd
          refine sp_aload_n X (pc := 33) (r := some (A 6)) dX10_begin_33 rfl rfl ?_
          refine sp_getfield X (pc := 34) (c := 11) (i := 1) (t := 2) (a := (A 6)) (v := va_rf (some (A 15))) rfl (by first | assumption | omega) (by decide) rfl (congrArg va_rf (hS9.p 705 6 15 (by decide))) fl_Walk_18 dX10_begin_34 ?_
          refine sp_aload_n X (pc := 37) (r := some p) dX10_begin_37 rfl rfl ?_
          refine sp_iload_n X (pc := 38) (x := (nI (d + 1) - 1)) dX10_begin_38 rfl rfl ?_
          refine sp_callV X (pc := 39) (mc := 0) (ms := 0) (b := p) (c := 7) (r := some p) (As := [.int (nI (d + 1) - 1)]) (rest := [va_rf (some (A 15))]) (c_Parted_at l G _ hp9) ok_Parted_at rfl hp9.1 (by decide) rfl lk_Walk_94 rfl rfl (by simp [sp_cat_rf, sp_cat_i, sp_cat_l]) (Nat.le_of_ble_eq_true rfl) (Nat.le_of_ble_eq_true rfl) (Nat.zero_le _) (Nat.zero_le _) dX10_begin_39 (sp_kR fun v39 m39 hp39 => ?_)
          obtain ⟨hp39, hp39m⟩ := hp39; replace hp39m := (hp39m).symm; subst hp39m
          obtain ⟨nm, rfl, hnmt, hk39, -⟩ := hp39
          have hnv39 : sp_nv mm nm (us.getD d []) := by
            obtain ⟨nm', z1, z2⟩ := ((hpv.F hI F9).pt hp9).2.1 d (by omega)
            rw [hk39 d (by omega) (nI_pred d)] at z1
            cases z1
            exact z2
          refine sp_callV X (pc := 42) (mc := (if t < mm.ln e then 0 else 1)) (ms := (if t < mm.ln e then 0 else sp_cap (mm.ln e))) (b := (A 15)) (c := 0) (r := (some (A 15))) (As := [va_rf (some nm)]) (rest := []) (c_List_add1 l G _ (o := A 15) (ed := e) (s := t) (b := nm) hG li9 I9.wf (by omega) (I9.J.elob li9 (sp_e0 _)) ⟨4, hnmt, by decide, ca_4⟩) ok_List_add1 rfl li9.1 (by decide) rfl lk_Walk_98 rfl rfl (Nat.zero_le _) (Nat.le_of_ble_eq_true rfl) (Nat.le_of_ble_eq_true rfl) (by have := sp_cap_gt (mm.ln e); have h7 := sp_gw_ge d (t + 1) (if t < mm.ln e then mm.ln e else sp_cap (mm.ln e)); have h8 : sp_gw (d + 1) t (mm.ln e) = sp_gw d (t + 1) (if t < mm.ln e then mm.ln e else sp_cap (mm.ln e)) := rfl; split <;> rename_i q9 <;> simp only [q9, if_true, if_false] at h7 h8 <;> omega) (by have := sp_cap_gt (mm.ln e); have := sp_gw_c (mm.ln e); have h7 := sp_gw_ge d (t + 1) (if t < mm.ln e then mm.ln e else sp_cap (mm.ln e)); have h8 : sp_gw (d + 1) t (mm.ln e) = sp_gw d (t + 1) (if t < mm.ln e then mm.ln e else sp_cap (mm.ln e)) := rfl; split <;> rename_i q9 <;> simp only [q9, if_true, if_false] at h7 h8 <;> omega) dX10_begin_42 (sp_kI fun v42 m42 hp42 => ?_)
          obtain ⟨hv42, had⟩ := hp42
          have I' := I9.add sp_ix15 li9 had (by show t < 3400; omega) ⟨hnmt, fun z => absurd z (by decide)⟩ (fun z => absurd z (by decide))
          have F' : sp_F m m42 A sp_15 := F9.ad I9.J li9 had sp_ix15 sp_15.l
          have hp' : sp_pt G m42 p L edp sp := F'.pt hI I' hp
          have ht9' := (sp_sz_fun li9 ah9.1).2
          have ah' := ah9.cons I9 hnv39 (by rw [← ht9']; exact had)
          have i' : (∀ k a, k ≠ 0 → k ≠ 2 → a < m.nx → m42.fI k a = m.fI k a) := fun k a h1 h2 h3 => by
            obtain ⟨ed', q1, q2, q3, q4, q5, q6, -⟩ := had
            rw [q6 k a (by omega) (by omega)]
            exact i9 k a h1 h2 h3
          obtain ⟨ed', q1, q2, q3, q4, q5, -⟩ := had
          have ah2 : sp_ah G m42 A ed' (us.drop d ++ rs) := by
            rw [sp_drop (by omega), List.cons_append]
            exact ah' ed' (by rw [← ht9']; exact q1)
          have fo' : m42.fR 706 (A 6) = some (NA ff) := by rw [q5 _ _ (by omega)]; exact fo9
          have hc' : m42.ln ed' = if t < mm.ln e then mm.ln e else sp_cap (mm.ln e) := by
            rcases q4 with q | q
            · rw [q.2.1, q.2.2.2.2, if_pos q.1]
            · rw [q.2.1, q.2.2.2.2, if_neg q.1]
              unfold sp_u1
              rw [if_pos rfl]
          refine sp_pop X (pc := 45) dX10_begin_45 rfl ?_
          refine sp_iinc X (pc := 46) (v := (nI d - 1)) (lv' := [(3, false, .int (nI d - 1)), (0, false, va_rf (some (A 6))), (1, false, va_rf (some p))]) dX10_begin_46 rfl (sp_m2 d) (by decide) rfl ?_
          refine sp_goto X (pc := 49) (tgt := 29) dX10_begin_49 (by decide) ?_
          refine sp_pick X [1, 2, 0] (lv' := [(0, false, va_rf (some (A 6))), (1, false, va_rf (some p)), (3, false, .int (nI d - 1))]) rfl ?_
          exact ih d (by omega) m42 d ed' (t + 1) _ _ ff I' F' i' hp' q1 (by omega) (by rw [hc']; exact g9) (by rw [hc']; have h8 : sp_gw (d + 1) t (mm.ln e) = sp_gw d (t + 1) (if t < mm.ln e then mm.ln e else sp_cap (mm.ln e)) := rfl; have := sp_cap_gt (mm.ln e); split <;> rename_i q9 <;> simp only [q9, if_true, if_false] at h8 <;> omega) (by rw [hc']; have h8 : sp_gw (d + 1) t (mm.ln e) = sp_gw d (t + 1) (if t < mm.ln e then mm.ln e else sp_cap (mm.ln e)) := rfl; have := sp_cap_gt (mm.ln e); have := sp_gw_c (mm.ln e); split <;> rename_i q9 <;> simp only [q9, if_true, if_false] at h8 <;> omega) (by omega) ah2 fo' hff hfc rfl
    refine sp_pick X [1, 2, 0] (lv' := [(0, false, va_rf (some (A 6))), (1, false, va_rf (some p)), (3, false, .int ((nI sp) - 1))]) rfl ?_
    exact loop29 _ (m.pR 706 (A 6) (some (NA ff))) sp ed s _ _ ff I1 F1 (fun k a _ _ _ => rfl) hpm ⟨hli.1, by rw [sp_pR_fR, if_neg (by omega)]; exact hli.2.1, hli.2.2⟩ rfl rfl (Nat.le_refl _) (Nat.le_refl _) (Nat.le_refl _) (by rw [List.drop_eq_nil_of_le (by omega)]; exact ah1) (by rw [sp_pR_fR, if_pos ⟨rfl, rfl⟩]) hff hfc rfl
  refine sp_aload_n X (pc := 0) (r := some (A 6)) dX10_begin_0 rfl rfl ?_
  refine sp_aload_n X (pc := 1) (r := some p) dX10_begin_1 rfl rfl ?_
  refine sp_getfield X (pc := 2) (c := 7) (i := 1) (t := 0) (a := p) (v := .int (m.fI 449 p)) rfl (by first | assumption | omega) (by decide) rfl rfl fl_Walk_82 dX10_begin_2 ?_
  refine sp_if_eq X (pc := 5) (tgt := 18) dX10_begin_5 (by decide) (fun hb5 => ?_) (fun hb5 => ?_)
  · refine sp_aload_n X (pc := 18) (r := some (NA fi)) dX10_begin_18 rfl rfl ?_
    first
      | exact cut19 _ hfi (Or.inr ⟨hb5, rfl⟩)
      | (rw [← hN0]; exact cut19 0 (by omega) (Or.inl ⟨hb5, rfl⟩))
  · refine sp_aload_n X (pc := 8) (r := some (A 6)) dX10_begin_8 rfl rfl ?_
    refine sp_getfield X (pc := 9) (c := 11) (i := 0) (t := 2) (a := (A 6)) (v := va_rf (some (A 5))) rfl (by first | assumption | omega) (by decide) rfl (congrArg va_rf (hS.p 704 6 5 (by decide))) fl_Walk_9 dX10_begin_9 ?_
    refine sp_getfield X (pc := 12) (c := 10) (i := 3) (t := 2) (a := (A 5)) (v := va_rf (some (A 11))) rfl (by first | assumption | omega) (by decide) rfl (congrArg va_rf (hS.p 643 5 11 (by decide))) fl_Walk_88 dX10_begin_12 ?_
    refine sp_goto X (pc := 15) (tgt := 19) dX10_begin_15 (by decide) ?_
    first
      | exact cut19 _ hfi (Or.inr ⟨hb5, rfl⟩)
      | (rw [← hN0]; exact cut19 0 (by omega) (Or.inl ⟨hb5, rfl⟩))
set_option maxRecDepth 20000 in
theorem c_Walk_goUp (l : Launch) (G : sp_G) (m : sp_M) {P : Nat → Prop} {A : Nat → Nat} (hG : sp_GS G) (hI : sp_I G P A m) {R : Int32} {TT : Nat → List Int32} {n nb0 nt0 : Nat} {T : pu_N} {NA BA : Nat → Nat} (hN : sp_cN G m A R TT n T NA BA) (hW : pu_W n nb0 nt0 T) {fi bl : Nat} (hfo : m.fR 706 (A 6) = some (NA fi)) (hfi : fi < n) (hbl : m.fI 707 (A 6) = nI bl) (hb31 : bl < 2000) : sp_C l G M_Walk_goUp 0 0 [.ref (A 6)] m (sp_oI fun v m' => v = -4 ∧ sp_I G P A m' ∧ sp_F m m' A sp_W3 ∧ m'.fI 708 (A 6) = m.fI 708 (A 6) ∧ ∃ f' bl', (m'.fR 706 (A 6) = some (NA f') ∧ f' < n) ∧ m'.fI 707 (A 6) = nI bl' ∧ ((0 < bl ∧ f' = fi ∧ bl' = bl - 1) ∨ (bl = 0 ∧ f' = T.o fi ∧ bl' = 0))) := by
  refine sp_enter (lv0 := [(0, false, va_rf (some (A 6)))]) "SafePaths$Walk" false rfl (by decide) (fun h => by cases h) (Nat.le_of_ble_eq_true rfl) rfl ?_
  intro w X
  have hS := hI.S
  have t6 := hS.k 6 12 (by decide)
  have hnd := hN.2.2 fi hfi
  have hfot := hnd.1
  have hup := hnd.up hW.2.1
  have hon := hW.lt hfi
  have hut := (hN.2.2 _ hon).1
  refine sp_aload_n X (pc := 0) (r := some (A 6)) dX10_goUp_0 rfl rfl ?_
  refine sp_getfield X (pc := 1) (c := 11) (i := 3) (t := 0) (a := (A 6)) (v := .int (nI bl)) rfl (by first | assumption | omega) (by decide) rfl (congrArg Value.int hbl) fl_Walk_31 dX10_goUp_1 ?_
  refine sp_if_le X (pc := 4) (tgt := 20) dX10_goUp_4 (by decide) (fun hb4 => ?_) (fun hb4 => ?_)
  · have hb0 : bl = 0 := by
      have := sp_nge (a := 0) hb4 (by omega) (by omega)
      omega
    refine sp_aload_n X (pc := 20) (r := some (A 6)) dX10_goUp_20 rfl rfl ?_
    refine sp_aload_n X (pc := 21) (r := some (A 6)) dX10_goUp_21 rfl rfl ?_
    refine sp_getfield X (pc := 22) (c := 11) (i := 2) (t := 2) (a := (A 6)) (v := va_rf (some (NA fi))) rfl (by first | assumption | omega) (by decide) rfl (congrArg va_rf hfo) fl_Walk_28 dX10_goUp_22 ?_
    refine sp_callV X (pc := 25) (mc := 0) (ms := 0) (b := (NA fi)) (c := 5) (r := (some (NA fi))) (As := []) (rest := [va_rf (some (A 6))]) (c_Node_up l G _ hfot) ok_Node_up rfl hfot (by decide) rfl lk_Walk_102 rfl rfl (by simp [sp_cat_rf, sp_cat_i, sp_cat_l]) (Nat.le_of_ble_eq_true rfl) (Nat.le_of_ble_eq_true rfl) (Nat.zero_le _) (Nat.zero_le _) dX10_goUp_25 (sp_kR fun v25 m25 hp25 => ?_)
    obtain ⟨hp25v, hp25⟩ := hp25; replace hp25 := (hp25).symm; subst hp25; replace hp25v := (hp25v).symm; subst hp25v
    rw [hup]
    refine sp_putR X (pc := 28) (c := 11) (i := 2) (q := 706) (a := (A 6)) rfl (by first | assumption | omega) (by decide) rfl rfl (Or.inl rfl)  fl_Walk_28 dX10_goUp_28 ?_
    refine sp_bipush X (pc := 31) (v := (-4)) dX10_goUp_31 (by decide) ?_
    refine sp_ireturn X (pc := 33) dX10_goUp_33 rfl ⟨_, rfl, ?_⟩
    first
      | exact ⟨rfl, hI.pI (by decide), (sp_F.refl m A sp_W3).pI (Or.inr (Or.inl rfl)) (by decide), by rw [sp_pI_fI, if_neg (by omega)], fi, d, ⟨hfo, hfi⟩, by rw [sp_pI_fI, if_pos ⟨rfl, rfl⟩], Or.inl ⟨by omega, rfl, by omega⟩⟩
      | exact ⟨rfl, hI.pR (Or.inl rfl) (fun x hx => by cases hx; rw [if_neg (by decide)]; exact hut) (fun _ => by simp), (sp_F.refl m A sp_W3).pR (Or.inl rfl) (Or.inl rfl), rfl, T.o fi, 0, ⟨by rw [sp_pR_fR, if_pos ⟨rfl, rfl⟩], hon⟩, hbl.trans (by rw [hb0]), Or.inr ⟨hb0, rfl, rfl⟩⟩
  · obtain ⟨d, hd⟩ : ∃ d, bl = d + 1 := ⟨bl - 1, by
      have := sp_nlt (a := 0) hb4 (by omega)
      omega⟩
    refine sp_aload_n X (pc := 7) (r := some (A 6)) dX10_goUp_7 rfl rfl ?_
    refine sp_dup X (pc := 8) dX10_goUp_8 (sp_cat_rf _) ?_
    refine sp_getfield X (pc := 9) (c := 11) (i := 3) (t := 0) (a := (A 6)) (v := .int (nI bl)) rfl (by first | assumption | omega) (by decide) rfl (congrArg Value.int hbl) fl_Walk_31 dX10_goUp_9 ?_
    refine sp_iconst X (pc := 12) (v := 1) dX10_goUp_12 (by decide) ?_
    refine sp_isub X (pc := 13) dX10_goUp_13 ?_
    rw [show ((nI bl) - 1) = nI d from (by rw [hd]; exact nI_pred d)]
    refine sp_putI X (pc := 14) (c := 11) (i := 3) (q := 707) (a := (A 6)) rfl (by first | assumption | omega) (by decide) rfl rfl (Or.inl rfl) ⟨rfl, rfl⟩ fl_Walk_31 dX10_goUp_14 ?_
    refine sp_goto X (pc := 17) (tgt := 31) dX10_goUp_17 (by decide) ?_
    refine sp_bipush X (pc := 31) (v := (-4)) dX10_goUp_31 (by decide) ?_
    refine sp_ireturn X (pc := 33) dX10_goUp_33 rfl ⟨_, rfl, ?_⟩
    first
      | exact ⟨rfl, hI.pI (by decide), (sp_F.refl m A sp_W3).pI (Or.inr (Or.inl rfl)) (by decide), by rw [sp_pI_fI, if_neg (by omega)], fi, d, ⟨hfo, hfi⟩, by rw [sp_pI_fI, if_pos ⟨rfl, rfl⟩], Or.inl ⟨by omega, rfl, by omega⟩⟩
      | exact ⟨rfl, hI.pR (Or.inl rfl) (fun x hx => by cases hx; rw [if_neg (by decide)]; exact hut) (fun _ => by simp), (sp_F.refl m A sp_W3).pR (Or.inl rfl) (Or.inl rfl), rfl, T.o fi, 0, ⟨by rw [sp_pR_fR, if_pos ⟨rfl, rfl⟩], hon⟩, hbl.trans (by rw [hb0]), Or.inr ⟨hb0, rfl, rfl⟩⟩
set_option maxHeartbeats 1000000 in
set_option maxRecDepth 20000 in
theorem c_Walk_goTo (l : Launch) (G : sp_G) (m : sp_M) {P : Nat → Prop} {A : Nat → Nat} (hG : sp_GS G) (hI : sp_I G P A m) {R : Int32} {TT : Nat → List Int32} {n nb0 nt0 : Nat} {T : pu_N} {NA BA : Nat → Nat} (hN : sp_cN G m A R TT n T NA BA) (hW : pu_W n nb0 nt0 T) (hTT : ∀ t, t < nt0 → (TT t).length ≤ 40) {fi bl lp ed : Nat} {rs : List (List Int32)} {u : List Int32} {o r : Option Nat} (hfo : m.fR 706 (A 6) = some (NA fi)) (hfi : fi < n) (hbl : m.fI 707 (A 6) = nI bl) (hb31 : bl < 2000) (hr : (0 < bl ∧ r = none) ∨ (bl = 0 ∧ pu_in R n T fi u o ∧ r = o.map NA)) (hah : sp_ah G m A ed rs) (hlp : m.fI 708 (A 6) = nI lp) (hl20 : lp ≤ 20) (hs : rs.length ≤ 161 * (lp + 1)) : sp_C l G M_Walk_goTo (sp_gk m lp r rs.length (m.ln ed)) (4 * sp_gk m lp r rs.length (m.ln ed)) [.ref (A 6), va_rf r] m (sp_oI fun v m' => sp_I G P A m' ∧ sp_F m m' A sp_15 ∧ ((v = -4 ∧ ∃ e f' bl' lp' rs', sp_ws G m' A NA n e f' bl' lp' rs' ∧ pu_go T (pu_tp R TT) (pu_tf R TT) fi bl lp rs o (.inl (f', bl', lp', rs')) ∧ lp' ≤ 20 ∧ rs'.length ≤ 161 * (lp' + 1) ∧ rs'.length + 20 * (20 - lp') ≤ rs.length + 20 * (20 - lp) ∧ bl' ≤ bl + 1 ∧ m'.ln e = m.ln ed + sp_gk m lp r rs.length (m.ln ed)) ∨ (¬ v = -4 ∧ pu_go T (pu_tp R TT) (pu_tf R TT) fi bl lp rs o (.inr v)))) := by
  refine sp_enter (lv0 := [(0, false, va_rf (some (A 6))), (1, false, va_rf r)]) "SafePaths$Walk" false rfl (by decide) (fun h => by cases h) (by simp [lg_sl, sp_cat_rf, sp_cat_i, sp_cat_l, sp_cat_ref]) (by simp [sp_args, sp_cat_rf, sp_cat_i, sp_cat_l, sp_beq12, sp_beq22, sp_cat_ref, sp_rf_some]; done) ?_
  intro w X
  have hS := hI.S
  have t5 := hS.k 5 11 (by decide)
  have t6 := hS.k 6 12 (by decide)
  have t15 := hS.k 15 1 (by decide)
  have hli := hah.1
  have hn200 := hW.1.2
  have hsc := hli.2.2.2.1
  have hfin : ∀ (b : Nat), r = some b → (m.fR 324 b = none ∨ ¬ m.fI 325 b = 0 ∨ ¬ lp < 20) → sp_gk m lp r rs.length (m.ln ed) = 0 := fun b hb h => by
    subst hb
    show (if lp < 20 ∧ m.fI 325 b = 0 then _ else 0) = 0
    rcases h with h | h | h
    · split
      · rw [h]
      · rfl
    · rw [if_neg (fun z => h z.2)]
    · rw [if_neg (fun z => h z.1)]
  have h0b : nI bl + 1 = nI (bl + 1) := nI_1 bl
  refine sp_aload_n X (pc := 0) (r := r) dX10_goTo_0 rfl rfl ?_
  refine sp_ifnonnull X (pc := 1) (tgt := 17) dX10_goTo_1 (by decide) (fun ra1 hb1 => ?_) (fun hb1 => ?_)
  · obtain ⟨j9, hj9, hbl0, ho9, hin⟩ : ∃ j9, r = some (NA j9) ∧ bl = 0 ∧ o = some j9 ∧ pu_in R n T fi u (some j9) := by
      rcases hr with ⟨-, hr2⟩ | ⟨hr1, hr2, hr3⟩
      · rw [hb1] at hr2; cases hr2
      · cases o with
        | none => rw [hb1] at hr3; cases hr3
        | some j => exact ⟨j, hr3, hr1, rfl, hr2⟩
    obtain ⟨hjn, hjg, hjo⟩ := hin.lt
    subst hj9
    have hra : NA j9 = ra1 := Option.some.inj hb1
    subst hra
    have hnd := hN.2.2 j9 hjn
    have hrt := hnd.1
    have hnum := hnd.2.1
    obtain ⟨hd1, hd2, hd3, hd4⟩ := hI.J.2.2.2.2.1 _ hrt (sp_e0 _)
    have hfd := hnd.fld hW hjn
    have hup := hnd.up hW.2.1
    have hgo : ∀ x, pu_s2 T (pu_tp R TT) (pu_tf R TT) fi lp rs (some j9) x → pu_go T (pu_tp R TT) (pu_tf R TT) fi bl lp rs o x := fun x hx => Or.inr ⟨hbl0, by rw [ho9]; exact hx⟩
    have hjk := hW.2.2.2.1 j9 hjn
    refine sp_aload_n X (pc := 17) (r := (some (NA j9))) dX10_goTo_17 rfl rfl ?_
    refine sp_callV X (pc := 18) (mc := 0) (ms := 0) (b := (NA j9)) (c := 5) (r := (some (NA j9))) (As := []) (rest := []) (c_Node_isFolder l G _ hrt) ok_Node_isFolder rfl hrt (by decide) rfl lk_Walk_106 rfl rfl (Nat.zero_le _) (Nat.le_of_ble_eq_true rfl) (Nat.le_of_ble_eq_true rfl) (Nat.zero_le _) (Nat.zero_le _) dX10_goTo_18 (sp_kI fun v18 m18 hp18 => ?_)
    obtain ⟨hp18v, hp18⟩ := hp18; replace hp18 := (hp18).symm; subst hp18; replace hp18v := (hp18v).symm; subst hp18v
    refine sp_if_eq X (pc := 21) (tgt := 32) dX10_goTo_21 (by decide) (fun hb21 => ?_) (fun hb21 => ?_)
    · have hk0 : ¬ T.k j9 = 0 := fun z => by
        rw [if_pos (hfd.mpr z)] at hb21
        exact absurd hb21 (by decide)
      refine sp_aload_n X (pc := 32) (r := (some (NA j9))) dX10_goTo_32 rfl rfl ?_
      refine sp_getfield X (pc := 33) (c := 5) (i := 4) (t := 2) (a := (NA j9)) (v := va_rf (m.fR 324 (NA j9))) rfl (by first | assumption | omega) (by decide) rfl rfl fl_Walk_109 dX10_goTo_33 ?_
      refine sp_ifnull X (pc := 36) (tgt := 46) dX10_goTo_36 (by decide) (fun hb36 => ?_) (fun ra36 hb36 => ?_)
      · have hk2 : ¬ (T.k j9 = 2 ∧ T.d j9 = 0) := fun z => by
          obtain ⟨ta, z1, -⟩ := hnd.2.2.2.2.2.2.2 z.1
          rw [hb36] at z1
          cases z1
        refine sp_aload_n X (pc := 46) (r := some (A 6)) dX10_goTo_46 rfl rfl ?_
        refine sp_getfield X (pc := 47) (c := 11) (i := 1) (t := 2) (a := (A 6)) (v := va_rf (some (A 15))) rfl (by first | assumption | omega) (by decide) rfl (congrArg va_rf (hS.p 705 6 15 (by decide))) fl_Walk_18 dX10_goTo_47 ?_
        refine sp_callV X (pc := 50) (mc := 0) (ms := 0) (b := (A 15)) (c := 0) (r := (some (A 15))) (As := []) (rest := []) (c_List_isEmpty l G _ t15) ok_List_isEmpty rfl t15 (by decide) rfl lk_Walk_49 rfl rfl (Nat.zero_le _) (Nat.le_of_ble_eq_true rfl) (Nat.le_of_ble_eq_true rfl) (Nat.zero_le _) (Nat.zero_le _) dX10_goTo_50 (sp_kI fun v50 m50 hp50 => ?_)
        obtain ⟨hp50v, hp50⟩ := hp50; replace hp50 := (hp50).symm; subst hp50; replace hp50v := (hp50v).symm; subst hp50v
        rw [hli.2.2.1]
        refine sp_if_eq X (pc := 53) (tgt := 63) dX10_goTo_53 (by decide) (fun hb53 => ?_) (fun hb53 => ?_)
        · have hrs : ¬ rs = [] := fun z => by
            rw [z, if_pos (by rfl)] at hb53
            exact absurd hb53 (by decide)
          refine sp_bipush X (pc := 63) (v := (-2)) dX10_goTo_63 (by decide) ?_
          refine sp_ireturn X (pc := 65) dX10_goTo_65 rfl ⟨_, rfl, ?_⟩
          first
            | exact ⟨hI, sp_F.refl m A sp_15, Or.inr ⟨by decide, hgo _ (Or.inr ⟨j9, rfl, Or.inr (Or.inr ⟨⟨hk0, hk2⟩, Or.inr ⟨hrs, rfl⟩⟩)⟩)⟩⟩
            | (rw [hnum]
               exact ⟨hI, sp_F.refl m A sp_15, Or.inr ⟨nI_m4 (by omega), hgo _ (Or.inr ⟨j9, rfl, Or.inr (Or.inr ⟨⟨hk0, hk2⟩, Or.inl ⟨hrs, rfl⟩⟩)⟩)⟩⟩)
        · have hrs : rs = [] := by
            by_cases z : nI rs.length = 0
            · have := sp_neq (b := 0) z (by have := hli.2.2.2.2.1; omega) (by omega)
              exact List.eq_nil_of_length_eq_zero this
            · rw [if_neg z] at hb53
              exact absurd rfl hb53
          refine sp_aload_n X (pc := 56) (r := (some (NA j9))) dX10_goTo_56 rfl rfl ?_
          refine sp_getfield X (pc := 57) (c := 5) (i := 0) (t := 0) (a := (NA j9)) (v := .int (m.fI 320 (NA j9))) rfl (by first | assumption | omega) (by decide) rfl rfl fl_Walk_53 dX10_goTo_57 ?_
          refine sp_goto X (pc := 60) (tgt := 65) dX10_goTo_60 (by decide) ?_
          refine sp_ireturn X (pc := 65) dX10_goTo_65 rfl ⟨_, rfl, ?_⟩
          first
            | exact ⟨hI, sp_F.refl m A sp_15, Or.inr ⟨by decide, hgo _ (Or.inr ⟨j9, rfl, Or.inr (Or.inr ⟨⟨hk0, hk2⟩, Or.inr ⟨hrs, rfl⟩⟩)⟩)⟩⟩
            | (rw [hnum]
               exact ⟨hI, sp_F.refl m A sp_15, Or.inr ⟨nI_m4 (by omega), hgo _ (Or.inr ⟨j9, rfl, Or.inr (Or.inr ⟨⟨hk0, hk2⟩, Or.inl ⟨hrs, rfl⟩⟩)⟩)⟩⟩)
      · have hk2 : T.k j9 = 2 := by
          rcases hjk with z | ⟨z, -⟩ | ⟨z, -⟩
          · exact absurd z hk0
          · rw [hnd.2.2.2.2.2.2.1 (by rw [z]; decide)] at hb36
            cases hb36
          · exact z
        refine sp_aload_n X (pc := 39) (r := (some (NA j9))) dX10_goTo_39 rfl rfl ?_
        refine sp_getfield X (pc := 40) (c := 5) (i := 5) (t := 0) (a := (NA j9)) (v := .int (m.fI 325 (NA j9))) rfl (by first | assumption | omega) (by decide) rfl rfl fl_Walk_113 dX10_goTo_40 ?_
        refine sp_if_eq X (pc := 43) (tgt := 66) dX10_goTo_43 (by decide) (fun hb43 => ?_) (fun hb43 => ?_)
        · have hdd : T.d j9 = 0 := hnd.2.2.2.2.1.1.symm.trans hb43
          refine sp_aload_n X (pc := 66) (r := some (A 6)) dX10_goTo_66 rfl rfl ?_
          refine sp_getfield X (pc := 67) (c := 11) (i := 4) (t := 0) (a := (A 6)) (v := .int (nI lp)) rfl (by first | assumption | omega) (by decide) rfl (congrArg Value.int hlp) fl_Walk_35 dX10_goTo_67 ?_
          refine sp_bipush X (pc := 70) (v := 20) dX10_goTo_70 (by decide) ?_
          refine sp_icmp_lt X (pc := 72) (tgt := 78) dX10_goTo_72 (by decide) (fun hb72 => ?_) (fun hb72 => ?_)
          · have hl9 : lp < 20 := Nat.lt_of_not_le fun z => (nI_nlt (b := 20) z (by omega)) hb72
            refine sp_aload_n X (pc := 78) (r := some (A 6)) dX10_goTo_78 rfl rfl ?_
            refine sp_dup X (pc := 79) dX10_goTo_79 (sp_cat_rf _) ?_
            refine sp_getfield X (pc := 80) (c := 11) (i := 4) (t := 0) (a := (A 6)) (v := .int (nI lp)) rfl (by first | assumption | omega) (by decide) rfl (congrArg Value.int hlp) fl_Walk_35 dX10_goTo_80 ?_
            refine sp_iconst X (pc := 83) (v := 1) dX10_goTo_83 (by decide) ?_
            refine sp_iadd X (pc := 84) dX10_goTo_84 ?_
            rw [show ((nI lp) + 1) = nI (lp + 1) from nI_1 lp]
            refine sp_putI X (pc := 85) (c := 11) (i := 4) (q := 708) (a := (A 6)) rfl (by first | assumption | omega) (by decide) rfl rfl (Or.inl rfl) ⟨rfl, rfl⟩ fl_Walk_35 dX10_goTo_85 ?_
            refine sp_aload_n X (pc := 88) (r := some (A 6)) dX10_goTo_88 rfl rfl ?_
            refine sp_aload_n X (pc := 89) (r := (some (NA j9))) dX10_goTo_89 rfl rfl ?_
            refine sp_getfield X (pc := 90) (c := 5) (i := 4) (t := 2) (a := (NA j9)) (v := va_rf (some ra36)) rfl (by first | assumption | omega) (by decide) rfl (congrArg va_rf hb36) fl_Walk_109 dX10_goTo_90 ?_
            refine sp_aload_n X (pc := 93) (r := (some (NA j9))) dX10_goTo_93 rfl rfl ?_
            refine sp_callV X (pc := 94) (mc := 0) (ms := 0) (b := (NA j9)) (c := 5) (r := (some (NA j9))) (As := []) (rest := [va_rf (some ra36), va_rf (some (A 6))]) (c_Node_up l G _ (o := NA j9) hrt) ok_Node_up rfl hrt (by decide) rfl lk_Walk_102 rfl rfl (by simp [sp_cat_rf, sp_cat_i, sp_cat_l]) (Nat.le_of_ble_eq_true rfl) (Nat.le_of_ble_eq_true rfl) (Nat.zero_le _) (Nat.zero_le _) dX10_goTo_94 (sp_kR fun v94 m94 hp94 => ?_)
            obtain ⟨hp94v, hp94⟩ := hp94; replace hp94 := (hp94).symm; subst hp94; replace hp94v := (hp94v).symm; subst hp94v
            rw [show (if (m.pI 708 (A 6) (nI (lp + 1))).fR 321 (NA j9) = none then some (NA j9) else (m.pI 708 (A 6) (nI (lp + 1))).fR 321 (NA j9)) = some (NA fi) from hup.trans (by rw [hjo])]
            have hI1 : sp_I G P A (m.pI 708 (A 6) (nI (lp + 1))) := hI.pI (by decide)
            have hF3 : sp_F m (m.pI 708 (A 6) (nI (lp + 1))) A sp_W3 := (sp_F.refl m A sp_W3).pI (Or.inr (Or.inr rfl)) (by decide)
            have hF1 := hF3.w3
            have hN1 := hN.F hI hF1 sp_15.n9 sp_15.n6 sp_15.n7
            obtain ⟨L9, ed9, n9, hpt9⟩ := hI1.J.pt (hd4 _ hb36)
            have h161 : n9 ≤ 161 := by have := hpt9.2.2.2.2.2.1; have := hpt9.2.2.2.2.2.2; omega
            have hah1 := (hah.F hI hF3 sp_W3.n).1
            obtain ⟨ta9, hta1, us9, htu, htv, htf⟩ := hnd.2.2.2.2.2.2.2 hk2
            have hta : ra36 = ta9 := Option.some.inj (hb36.symm.trans hta1)
            subst hta
            have htv1 := htv.F hI hF1
            have hh9 : T.h j9 < nt0 := by
              rcases hjk with z | ⟨z, -⟩ | ⟨-, z⟩
              · exact absurd z hk0
              · rw [z] at hk2; exact absurd hk2 (by decide)
              · exact z
            have hfew := htu.few (hTT _ hh9)
            have hn9 := (htv1.pt hpt9).1
            have hgk : sp_gk m lp (some (NA j9)) rs.length (m.ln ed) = sp_gw n9 rs.length (m.ln ed) - m.ln ed := by
              show (if lp < 20 ∧ m.fI 325 (NA j9) = 0 then _ else 0) = _
              rw [if_pos ⟨hl9, hb43⟩, hb36]
              show sp_gw (sp_np m ra36) rs.length (m.ln ed) - m.ln ed = _
              have h7 : sp_np (m.pI 708 (A 6) (nI (lp + 1))) ra36 = n9 := hpt9.np
              have h8 : sp_np (m.pI 708 (A 6) (nI (lp + 1))) ra36 = sp_np m ra36 := by
                unfold sp_np
                show (match m.fR 450 ra36 with | none => 0 | some L => ((m.pI 708 (A 6) (nI (lp + 1))).fI 2 L).toNatClampNeg) = _
                cases m.fR 450 ra36 with
                | none => rfl
                | some L => show ((m.pI 708 (A 6) (nI (lp + 1))).fI 2 L).toNatClampNeg = _; rw [sp_pI_fI, if_neg (by omega)]
              rw [← h8, h7]
            refine sp_callV X (pc := 97) (mc := sp_gw n9 rs.length (m.ln ed) - m.ln ed) (ms := 4 * (sp_gw n9 rs.length (m.ln ed) - m.ln ed)) (b := (A 6)) (c := 11) (r := some (A 6)) (As := [va_rf (some ra36), va_rf (some (NA fi))]) (rest := []) (c_Walk_begin l G _ hG hI1 hN1 hW hpt9 htv1 hfi hah1 (by omega)) ok_Walk_begin rfl (by first | assumption | omega) (by decide) rfl lk_Walk_41 rfl rfl (Nat.zero_le _) (Nat.le_of_ble_eq_true rfl) (Nat.le_of_ble_eq_true rfl) (Nat.le_of_eq hgk.symm) (by rw [hgk]; exact Nat.le_refl _) dX10_goTo_97 (sp_kV fun m97 hp97 => ?_)
            refine sp_bipush X (pc := 100) (v := (-4)) dX10_goTo_100 (by decide) ?_
            refine sp_ireturn X (pc := 102) dX10_goTo_102 rfl ⟨_, rfl, ?_⟩
            obtain ⟨j1, j2, j3, e', ff, j4, j5, j6, j7⟩ := hp97
            have l6 : A 6 < m.nx := hI.wf _ (by rw [t6]; decide)
            have e449 : (m.pI 708 (A 6) (nI (lp + 1))).fI 449 ra36 = m.fI 449 ra36 := by rw [sp_pI_fI, if_neg (by omega)]
            rw [e449] at j7
            refine ⟨j1, hF1.tr j2, Or.inl ⟨rfl, e', ff, 0, lp + 1, us9 ++ rs, ⟨j6, ?_, ?_, j4⟩, hgo _ (Or.inr ⟨j9, rfl, Or.inr (Or.inl ⟨hk2, hdd, Or.inr ⟨hl9, ?_⟩⟩)⟩), by omega, ?_, ?_, Nat.zero_le _, ?_⟩⟩
            · rw [j3 707 (A 6) (by decide) (by decide) l6, sp_pI_fI, if_neg (by omega), hbl, hbl0]
            · rw [j3 708 (A 6) (by decide) (by decide) l6, sp_pI_fI, if_pos ⟨rfl, rfl⟩]
            · rw [pu_tp.eq htu]
              rcases j7 with ⟨w1, w2⟩ | ⟨w1, w2⟩
              · exact Or.inl ⟨htf.ne w1, by rw [w2]⟩
              · exact Or.inr ⟨htf.eq w1, by rw [w2]⟩
            · rw [List.length_append]; omega
            · rw [List.length_append]; omega
            · rw [j5, hgk]
              have := sp_gw_ge n9 rs.length (m.ln ed)
              show sp_gw n9 rs.length (m.ln ed) = _
              omega
          · refine sp_bipush X (pc := 75) (v := (-3)) dX10_goTo_75 (by decide) ?_
            refine sp_ireturn X (pc := 77) dX10_goTo_77 rfl ⟨_, rfl, ?_⟩
            exact ⟨hI, sp_F.refl m A sp_15, Or.inr ⟨by decide, hgo _ (Or.inr ⟨j9, rfl, Or.inr (Or.inl ⟨hk2, hdd, Or.inl ⟨fun z => hb72 (nI_lt (b := 20) z (by decide)), rfl⟩⟩)⟩)⟩⟩
        · have hk2 : ¬ (T.k j9 = 2 ∧ T.d j9 = 0) := fun z => hb43 (hnd.2.2.2.2.1.1.trans z.2)
          refine sp_aload_n X (pc := 46) (r := some (A 6)) dX10_goTo_46 rfl rfl ?_
          refine sp_getfield X (pc := 47) (c := 11) (i := 1) (t := 2) (a := (A 6)) (v := va_rf (some (A 15))) rfl (by first | assumption | omega) (by decide) rfl (congrArg va_rf (hS.p 705 6 15 (by decide))) fl_Walk_18 dX10_goTo_47 ?_
          refine sp_callV X (pc := 50) (mc := 0) (ms := 0) (b := (A 15)) (c := 0) (r := (some (A 15))) (As := []) (rest := []) (c_List_isEmpty l G _ t15) ok_List_isEmpty rfl t15 (by decide) rfl lk_Walk_49 rfl rfl (Nat.zero_le _) (Nat.le_of_ble_eq_true rfl) (Nat.le_of_ble_eq_true rfl) (Nat.zero_le _) (Nat.zero_le _) dX10_goTo_50 (sp_kI fun v50 m50 hp50 => ?_)
          obtain ⟨hp50v, hp50⟩ := hp50; replace hp50 := (hp50).symm; subst hp50; replace hp50v := (hp50v).symm; subst hp50v
          rw [hli.2.2.1]
          refine sp_if_eq X (pc := 53) (tgt := 63) dX10_goTo_53 (by decide) (fun hb53 => ?_) (fun hb53 => ?_)
          · have hrs : ¬ rs = [] := fun z => by
              rw [z, if_pos (by rfl)] at hb53
              exact absurd hb53 (by decide)
            refine sp_bipush X (pc := 63) (v := (-2)) dX10_goTo_63 (by decide) ?_
            refine sp_ireturn X (pc := 65) dX10_goTo_65 rfl ⟨_, rfl, ?_⟩
            first
              | exact ⟨hI, sp_F.refl m A sp_15, Or.inr ⟨by decide, hgo _ (Or.inr ⟨j9, rfl, Or.inr (Or.inr ⟨⟨hk0, hk2⟩, Or.inr ⟨hrs, rfl⟩⟩)⟩)⟩⟩
              | (rw [hnum]
                 exact ⟨hI, sp_F.refl m A sp_15, Or.inr ⟨nI_m4 (by omega), hgo _ (Or.inr ⟨j9, rfl, Or.inr (Or.inr ⟨⟨hk0, hk2⟩, Or.inl ⟨hrs, rfl⟩⟩)⟩)⟩⟩)
          · have hrs : rs = [] := by
              by_cases z : nI rs.length = 0
              · have := sp_neq (b := 0) z (by have := hli.2.2.2.2.1; omega) (by omega)
                exact List.eq_nil_of_length_eq_zero this
              · rw [if_neg z] at hb53
                exact absurd rfl hb53
            refine sp_aload_n X (pc := 56) (r := (some (NA j9))) dX10_goTo_56 rfl rfl ?_
            refine sp_getfield X (pc := 57) (c := 5) (i := 0) (t := 0) (a := (NA j9)) (v := .int (m.fI 320 (NA j9))) rfl (by first | assumption | omega) (by decide) rfl rfl fl_Walk_53 dX10_goTo_57 ?_
            refine sp_goto X (pc := 60) (tgt := 65) dX10_goTo_60 (by decide) ?_
            refine sp_ireturn X (pc := 65) dX10_goTo_65 rfl ⟨_, rfl, ?_⟩
            first
              | exact ⟨hI, sp_F.refl m A sp_15, Or.inr ⟨by decide, hgo _ (Or.inr ⟨j9, rfl, Or.inr (Or.inr ⟨⟨hk0, hk2⟩, Or.inr ⟨hrs, rfl⟩⟩)⟩)⟩⟩
              | (rw [hnum]
                 exact ⟨hI, sp_F.refl m A sp_15, Or.inr ⟨nI_m4 (by omega), hgo _ (Or.inr ⟨j9, rfl, Or.inr (Or.inr ⟨⟨hk0, hk2⟩, Or.inl ⟨hrs, rfl⟩⟩)⟩)⟩⟩)
    · have hk0 : T.k j9 = 0 := hfd.mp (Classical.byContradiction fun z => hb21 (if_neg z))
      have hisf : m.fR 324 (NA j9) = none := (hfd.mpr hk0).2
      refine sp_aload_n X (pc := 24) (r := some (A 6)) dX10_goTo_24 rfl rfl ?_
      refine sp_aload_n X (pc := 25) (r := (some (NA j9))) dX10_goTo_25 rfl rfl ?_
      refine sp_putR X (pc := 26) (c := 11) (i := 2) (q := 706) (a := (A 6)) rfl (by first | assumption | omega) (by decide) rfl rfl (Or.inl rfl)  fl_Walk_28 dX10_goTo_26 ?_
      refine sp_bipush X (pc := 29) (v := (-4)) dX10_goTo_29 (by decide) ?_
      refine sp_ireturn X (pc := 31) dX10_goTo_31 rfl ⟨_, rfl, ?_⟩
      have F3 : sp_F m (m.pR 706 (A 6) (some (NA j9))) A sp_W3 := (sp_F.refl m A sp_W3).pR (Or.inl rfl) (Or.inl rfl)
      exact ⟨hI.pR (Or.inl rfl) (fun x hx => by cases hx; rw [if_neg (by decide)]; exact hrt) (fun _ => by simp), F3.w3, Or.inl ⟨rfl, ed, j9, 0, lp, rs, ⟨⟨by rw [sp_pR_fR, if_pos ⟨rfl, rfl⟩], hjn⟩, hbl.trans (by rw [hbl0]), hlp, (hah.F hI F3 sp_W3.n).1⟩, hgo _ (Or.inr ⟨j9, rfl, Or.inl ⟨hk0, rfl⟩⟩), hl20, hs, Nat.le_refl _, Nat.zero_le _, by rw [hfin _ rfl (Or.inl hisf)]; rfl⟩⟩
  · refine sp_aload_n X (pc := 4) (r := some (A 6)) dX10_goTo_4 rfl rfl ?_
    refine sp_dup X (pc := 5) dX10_goTo_5 (sp_cat_rf _) ?_
    refine sp_getfield X (pc := 6) (c := 11) (i := 3) (t := 0) (a := (A 6)) (v := .int (nI bl)) rfl (by first | assumption | omega) (by decide) rfl (congrArg Value.int hbl) fl_Walk_31 dX10_goTo_6 ?_
    refine sp_iconst X (pc := 9) (v := 1) dX10_goTo_9 (by decide) ?_
    refine sp_iadd X (pc := 10) dX10_goTo_10 ?_
    rw [show ((nI bl) + 1) = nI (bl + 1) from nI_1 bl]
    refine sp_putI X (pc := 11) (c := 11) (i := 3) (q := 707) (a := (A 6)) rfl (by first | assumption | omega) (by decide) rfl rfl (Or.inl rfl) ⟨rfl, rfl⟩ fl_Walk_31 dX10_goTo_11 ?_
    refine sp_bipush X (pc := 14) (v := (-4)) dX10_goTo_14 (by decide) ?_
    refine sp_ireturn X (pc := 16) dX10_goTo_16 rfl ⟨_, rfl, ?_⟩
    subst hb1
    have F3 : sp_F m (m.pI 707 (A 6) (nI (bl + 1))) A sp_W3 := (sp_F.refl m A sp_W3).pI (Or.inr (Or.inl rfl)) (by decide)
    refine ⟨hI.pI (by decide), F3.w3, Or.inl ⟨rfl, ed, fi, bl + 1, lp, rs, ⟨⟨hfo, hfi⟩, by rw [sp_pI_fI, if_pos ⟨rfl, rfl⟩], by rw [sp_pI_fI, if_neg (by omega)]; exact hlp, (hah.F hI F3 sp_W3.n).1⟩, ?_, hl20, hs, Nat.le_refl _, Nat.le_refl _, rfl⟩⟩
    rcases hr with ⟨hr1, -⟩ | ⟨hr1, hr2, hr3⟩
    · exact Or.inl ⟨hr1, rfl⟩
    · refine Or.inr ⟨hr1, Or.inl ⟨?_, by rw [hr1]⟩⟩
      cases o with
      | none => rfl
      | some j => cases hr3
set_option maxHeartbeats 8000000 in
set_option maxRecDepth 20000 in
theorem c_Walk_goThrough (l : Launch) (G : sp_G) (m : sp_M) {P : Nat → Prop} {A : Nat → Nat} (hG : sp_GS G) (hI : sp_I G P A m) {R : Int32} {TT : Nat → List Int32} {n nb0 nt0 : Nat} {T : pu_N} {NA BA : Nat → Nat} (hN : sp_cN G m A R TT n T NA BA) (hW : pu_W n nb0 nt0 T) (hR2 : ¬ m.fI 513 (A 0) = 0 ↔ ¬ sp_hr R 2 = 0) (hTT : ∀ t, t < nt0 → (TT t).length ≤ 40) {p num L edp sp fi ed s y0 : Nat} {us : List (List Int32)} (hp : sp_pt G m p L edp sp) (hpv : sp_pv G m p num us) (hus : us.length ≤ 20) (hfi : fi < n) (hy0 : y0 ≤ 100) (hli : sp_li G m (A 15) ed s) : sp_C l G M_Walk_goThrough (6810 - m.ln ed) (4 * (6810 - m.ln ed)) [.ref (A 6), .ref p, .ref (NA fi), .int (nI y0)] m (sp_oI fun v m' => sp_I G P A m' ∧ sp_F m m' A sp_15 ∧ ∃ ff, ((¬ m.fI 449 p = 0 ∧ ff = 0) ∨ (m.fI 449 p = 0 ∧ ff = fi)) ∧ pu_LG R n T (pu_tp R TT) (pu_tf R TT) (ff, y0, 0, us) v) := by
  refine sp_enter (lv0 := [(0, false, va_rf (some (A 6))), (1, false, va_rf (some p)), (2, false, va_rf (some (NA fi))), (3, false, .int (nI y0))]) "SafePaths$Walk" false rfl (by decide) (fun h => by cases h) (Nat.le_of_ble_eq_true rfl) rfl ?_
  intro w X
  have hS := hI.S
  have t0 := hS.k 0 9 (by decide)
  have t5 := hS.k 5 11 (by decide)
  have t6 := hS.k 6 12 (by decide)
  have t15 := hS.k 15 1 (by decide)
  have hwf := hI.wf
  have hf := (hN.2.2 fi hfi).1
  have hn200 := hW.1.2
  have hsp : sp ≤ 161 := by have := hp.2.2.2.2.2.1; have := hp.2.2.2.2.2.2; omega
  have hspu := (hpv.pt hp).1
  have hcap : m.ln ed ≤ 6810 := by
    obtain ⟨-, e0, t0, z1, z2, -, -⟩ := hS.2.2.1 15 sp_ix15
    obtain ⟨rfl, rfl⟩ := sp_sz_fun z1 hli
    exact z2
  have hR2F : ∀ mm, sp_F m mm A sp_15 → (¬ mm.fI 513 (A 0) = 0 ↔ ¬ sp_hr R 2 = 0) := fun mm h => by
    rw [h.I (hwf _ (by rw [t0]; decide)) (by decide) (by unfold sp_15; omega)]
    exact hR2
  refine sp_aload_n X (pc := 0) (r := some (A 6)) dX10_goThrough_0 rfl rfl ?_
  refine sp_getfield X (pc := 1) (c := 11) (i := 1) (t := 2) (a := (A 6)) (v := va_rf (some (A 15))) rfl (by first | assumption | omega) (by decide) rfl (congrArg va_rf (hS.p 705 6 15 (by decide))) fl_Walk_18 dX10_goThrough_1 ?_
  refine sp_callV X (pc := 4) (mc := 0) (ms := 0) (b := (A 15)) (c := 0) (r := (some (A 15))) (As := []) (rest := []) (c_List_clear l G _ hli) ok_List_clear rfl hli.1 (by decide) rfl lk_Walk_38 rfl rfl (Nat.zero_le _) (Nat.le_of_ble_eq_true rfl) (Nat.le_of_ble_eq_true rfl) (Nat.zero_le _) (Nat.zero_le _) dX10_goThrough_4 (sp_kV fun m4 hp4 => ?_)
  obtain ⟨m1, hm1⟩ : ∃ m1, m1 = m4 := ⟨_, rfl⟩
  have hsh : sp_sh m m1 (A 15) ed 0 := by rw [hm1, hp4]; exact sp_sh.cl m (A 15) ed _ _
  obtain ⟨hI1, hli1⟩ := hI.shr sp_ix15 hli (Nat.zero_le _) (by decide) hsh
  have hF1 : sp_F m m1 A sp_15 := (sp_F.refl m A sp_15).shr hI.J hli hsh sp_ix15 sp_15.l (fun z => by
    have h0 : s = 0 := by have := hli.2.2.2.1; have := hli.2.2.2.2.2; omega
    subst h0
    rw [hm1, hp4]
    funext q
    rw [sp_wR_aR, if_pos rfl, if_neg (by omega)])
  have hln1 : m1.ln = m.ln := hsh.2.2.1
  rw [← hm1]
  clear hm1 hp4 hsh
  have hS1 := hI1.S
  have x5 := hS1.k 5 11 (by decide)
  have x6 := hS1.k 6 12 (by decide)
  have x15 := hS1.k 15 1 (by decide)
  refine sp_aload_n X (pc := 7) (r := some (A 6)) dX10_goThrough_7 rfl rfl ?_
  refine sp_iload_n X (pc := 8) (x := nI y0) dX10_goThrough_8 rfl rfl ?_
  refine sp_putI X (pc := 9) (c := 11) (i := 3) (q := 707) (a := (A 6)) rfl (by first | assumption | omega) (by decide) rfl rfl (Or.inl rfl) ⟨rfl, rfl⟩ fl_Walk_31 dX10_goThrough_9 ?_
  refine sp_aload_n X (pc := 12) (r := some (A 6)) dX10_goThrough_12 rfl rfl ?_
  refine sp_iconst X (pc := 13) (v := 0) dX10_goThrough_13 (by decide) ?_
  refine sp_putI X (pc := 14) (c := 11) (i := 4) (q := 708) (a := (A 6)) rfl (by first | assumption | omega) (by decide) rfl rfl (Or.inl rfl) ⟨rfl, rfl⟩ fl_Walk_35 dX10_goThrough_14 ?_
  refine sp_aload_n X (pc := 17) (r := some (A 6)) dX10_goThrough_17 rfl rfl ?_
  refine sp_aload_n X (pc := 18) (r := some p) dX10_goThrough_18 rfl rfl ?_
  refine sp_aload_n X (pc := 19) (r := some (NA fi)) dX10_goThrough_19 rfl rfl ?_
  have hI2 : sp_I G P A ((m1.pI 707 (A 6) (nI y0)).pI 708 (A 6) 0) := (hI1.pI (by decide)).pI (by decide)
  have hF2 : sp_F m ((m1.pI 707 (A 6) (nI y0)).pI 708 (A 6) 0) A sp_15 := (hF1.pI sp_15.b (by decide)).pI sp_15.p (by decide)
  have hli2 : sp_li G ((m1.pI 707 (A 6) (nI y0)).pI 708 (A 6) 0) (A 15) ed 0 := (hli1.pI (by decide)).pI (by decide)
  have hah2 : sp_ah G ((m1.pI 707 (A 6) (nI y0)).pI 708 (A 6) 0) A ed [] := ⟨hli2, fun k hk => absurd hk (Nat.not_lt_zero _)⟩
  have hp2 : sp_pt G ((m1.pI 707 (A 6) (nI y0)).pI 708 (A 6) 0) p L edp sp := hF2.pt hI hI2 hp
  have hpv2 := hpv.F hI hF2
  have hN2 := hN.F hI hF2 sp_15.n9 sp_15.n6 sp_15.n7
  have hgw := sp_gw_le sp 0 (m.ln ed) 6810 (Nat.zero_le _) hcap (by omega)
  have hgg := sp_gw_ge sp 0 (m.ln ed)
  have hlm : ((m1.pI 707 (A 6) (nI y0)).pI 708 (A 6) 0).ln ed = m.ln ed := by show m1.ln ed = _; rw [hln1]
  refine sp_callV X (pc := 20) (mc := sp_gw sp ([] : List (List Int32)).length (((m1.pI 707 (A 6) (nI y0)).pI 708 (A 6) 0).ln ed) - ((m1.pI 707 (A 6) (nI y0)).pI 708 (A 6) 0).ln ed) (ms := 4 * (sp_gw sp ([] : List (List Int32)).length (((m1.pI 707 (A 6) (nI y0)).pI 708 (A 6) 0).ln ed) - ((m1.pI 707 (A 6) (nI y0)).pI 708 (A 6) 0).ln ed)) (b := (A 6)) (c := 11) (r := some (A 6)) (As := [va_rf (some p), va_rf (some (NA fi))]) (rest := []) (c_Walk_begin l G _ hG hI2 hN2 hW hp2 hpv2 hfi hah2 (by show 0 + sp ≤ 3400; omega)) ok_Walk_begin rfl x6 (by decide) rfl lk_Walk_41 rfl rfl (Nat.zero_le _) (Nat.le_of_ble_eq_true rfl) (Nat.le_of_ble_eq_true rfl) (by rw [hlm, List.length_nil]; omega) (by rw [hlm, List.length_nil]; omega) dX10_goThrough_20 (sp_kV fun m20 hp20 => ?_)
  obtain ⟨j1, j2, j3, e', ff, j4, j5, j7, j8⟩ := hp20
  have hF3 := hF2.tr j2
  rw [hlm, List.length_nil] at j5 ⊢
  rw [List.append_nil] at j4
  have l6 : A 6 < ((m1.pI 707 (A 6) (nI y0)).pI 708 (A 6) 0).nx := hI2.wf _ (by show m1.ty (A 6) ≠ 0; rw [x6]; decide)
  have j6 : m20.fI 708 (A 6) = nI 0 := by
    rw [j3 708 (A 6) (by decide) (by decide) l6, sp_pI_fI, if_pos ⟨rfl, rfl⟩]
    rfl
  have j9 : m20.fI 707 (A 6) = nI y0 := by
    rw [j3 707 (A 6) (by decide) (by decide) l6, sp_pI_fI, if_neg (by omega), sp_pI_fI, if_pos ⟨rfl, rfl⟩]
  have j10 : (¬ m.fI 449 p = 0 ∧ ff = 0) ∨ (m.fI 449 p = 0 ∧ ff = fi) := by
    rw [← hF2.I (k := 449) (hwf p (by have := hp.1; omega)) (by decide) (by unfold sp_15; omega)]
    exact j8
  refine sp_iconst X (pc := 23) (v := 0) dX10_goThrough_23 (by decide) ?_
  refine sp_istore X (pc := 24) (lv' := [(4, false, .int 0), (0, false, va_rf (some (A 6))), (1, false, va_rf (some p)), (2, false, va_rf (some (NA fi))), (3, false, .int (nI y0))]) dX10_goThrough_24  (by decide) rfl ?_
  have loop26 : ∀ (dz : Nat) (mm : sp_M) (i e f bl lp kk nn ff : Nat) (rs : List (List Int32)), sp_I G P A mm → sp_F m mm A sp_15 → sp_ws G mm A NA n e f bl lp rs → lp ≤ 20 → rs.length ≤ 161 * (lp + 1) → i + rs.length + 20 * (20 - lp) ≤ 420 → bl ≤ y0 + i → 6810 - mm.ln e ≤ kk → 4 * (6810 - mm.ln e) ≤ nn → ((¬ m.fI 449 p = 0 ∧ ff = 0) ∨ (m.fI 449 p = 0 ∧ ff = fi)) → (∀ v, pu_LG R n T (pu_tp R TT) (pu_tf R TT) (f, bl, lp, rs) v → pu_LG R n T (pu_tp R TT) (pu_tf R TT) (ff, y0, 0, us) v) → 1000 - i = dz → w kk nn mm 26 [(0, false, va_rf (some (A 6))), (1, false, va_rf (some p)), (2, false, va_rf (some (NA fi))), (3, false, .int (nI y0)), (4, false, .int (nI i))] [] := by
    intro dz
    induction dz using Nat.strongRecOn with
    | ind dz ih =>
      intro mm i e f bl lp kk nn ff rs I9 F9 w9 hl9 ht9 hst9 hbl9 hk9 hn9 hff lg9 hdz
      have hS9 := I9.S
      have u5 := hS9.k 5 11 (by decide)
      have u6 := hS9.k 6 12 (by decide)
      have u15 := hS9.k 15 1 (by decide)
      have N9 := hN.F hI F9 sp_15.n9 sp_15.n6 sp_15.n7
      have hfot := (N9.2.2 f w9.1.2).1
      have hcap9 : mm.ln e ≤ 6810 := by
        obtain ⟨-, e0, t0, z1, z2, -, -⟩ := hS9.2.2.1 15 sp_ix15
        obtain ⟨rfl, rfl⟩ := sp_sz_fun z1 w9.2.2.2.1
        exact z2
      have cut141 : ∀ (m2 : sp_M) (u9 : List Int32) (r9 : List (List Int32)) (r o9 : Option Nat), i < 1000 → sp_I G P A m2 → sp_F m m2 A sp_15 → sp_ah G m2 A e r9 → m2.fI 708 (A 6) = nI lp → r9.length ≤ 161 * (lp + 1) → m2.ln e = mm.ln e → ((0 < bl ∧ r = none) ∨ (bl = 0 ∧ pu_in R n T f u9 o9 ∧ r = o9.map NA)) → m2.fR 706 (A 6) = some (NA f) → m2.fI 707 (A 6) = nI bl → pu_ins T.o f → ¬ pu_up u9 → rs = u9 :: r9 → i + (r9.length + 1) + 20 * (20 - lp) ≤ 420 → w kk nn m2 141 [(0, false, va_rf (some (A 6))), (1, false, va_rf (some p)), (2, false, va_rf (some (NA fi))), (3, false, .int (nI y0)), (4, false, .int (nI i))] [va_rf r, va_rf (some (A 6))] := by
        intro m2 u9 r9 r o9 hi9 c1 c2 c3 c4 c5 c6 c7 c8 c9 hin hup9 lgw c10
        subst lgw
        have hS2 := c1.S
        have y6 := hS2.k 6 12 (by decide)
        have hN2 := hN.F hI c2 sp_15.n9 sp_15.n6 sp_15.n7
        have hgk := sp_gk_le (r := r) c1 (fun b z => by
          rcases c7 with ⟨-, q⟩ | ⟨-, q1, q2⟩
          · rw [q] at z; cases z
          · cases o9 with
            | none => rw [q2] at z; cases z
            | some j => rw [q2] at z; cases z; exact (hN2.2.2 j q1.lt.1).1) c5 hl9 c3.1.2.2.2.1 (by omega)
        refine sp_callV X (pc := 141) (mc := sp_gk m2 lp r r9.length (m2.ln e)) (ms := 4 * sp_gk m2 lp r r9.length (m2.ln e)) (b := (A 6)) (c := 11) (r := some (A 6)) (As := [va_rf r]) (rest := []) (c_Walk_goTo l G _ (r := r) hG c1 hN2 hW hTT c8 w9.1.2 c9 (by omega) c7 c3 c4 hl9 c5) ok_Walk_goTo rfl y6 (by decide) rfl lk_Walk_78 rfl rfl (Nat.zero_le _) (Nat.le_of_ble_eq_true rfl) (Nat.le_of_ble_eq_true rfl) (by omega) (by omega) dX10_goThrough_141 (sp_kI fun v141 m141 hp141 => ?_)
        obtain ⟨k1, k2, k3⟩ := hp141
        have hst : ∀ x, pu_go T (pu_tp R TT) (pu_tf R TT) f bl lp r9 o9 x → pu_st R n T (pu_tp R TT) (pu_tf R TT) (f, bl, lp, u9 :: r9) x := fun x hx => by
          refine Or.inr (Or.inr ⟨hin, u9, r9, rfl, ?_⟩)
          rcases hx with ⟨z1, z2⟩ | ⟨z1, z2⟩
          · exact Or.inr (Or.inl ⟨z1, hup9, z2⟩)
          · rcases c7 with ⟨q1, -⟩ | ⟨-, q1, -⟩
            · omega
            · exact Or.inr (Or.inr (Or.inr ⟨z1, hup9, o9, q1, z2⟩))
        refine sp_istore X (pc := 144) (lv' := [(6, false, .int v141), (0, false, va_rf (some (A 6))), (1, false, va_rf (some p)), (2, false, va_rf (some (NA fi))), (3, false, .int (nI y0)), (4, false, .int (nI i))]) dX10_goThrough_144  (by decide) rfl ?_
        refine sp_iload X (pc := 146) (x := v141) dX10_goThrough_146 rfl ?_
        refine sp_bipush X (pc := 148) (v := (-4)) dX10_goThrough_148 (by decide) ?_
        refine sp_icmp_eq X (pc := 150) (tgt := 156) dX10_goThrough_150 (by decide) (fun hb150 => ?_) (fun hb150 => ?_)
        · refine sp_iinc X (pc := 156) (v := nI (i + 1)) (lv' := [(4, false, .int (nI (i + 1))), (6, false, .int v141), (0, false, va_rf (some (A 6))), (1, false, va_rf (some p)), (2, false, va_rf (some (NA fi))), (3, false, .int (nI y0))]) dX10_goThrough_156 rfl (nI_1 i) (by decide) rfl ?_
          refine sp_goto X (pc := 159) (tgt := 26) dX10_goThrough_159 (by decide) ?_
          refine sp_pick X [2, 3, 4, 5, 0] (lv' := [(0, false, va_rf (some (A 6))), (1, false, va_rf (some p)), (2, false, va_rf (some (NA fi))), (3, false, .int (nI y0)), (4, false, .int (nI (i + 1)))]) rfl ?_
          first
            | exact ih (1000 - (i + 1)) (by omega) m110 (i + 1) e f' bl' lp kk nn ff r9 k1 (hF2.tr k2.w3) ⟨k6, k7, k4.trans h708, k5.1⟩ hl9 (by simp only [List.length_cons] at ht9; omega) (by simp only [List.length_cons] at hst9; omega) (by omega) (by rw [k5.2, hln2]; exact hk9) (by rw [k5.2, hln2]; exact hn9) hff (fun v z => lg9 v (pu_LG.go hst z)) rfl
            | (rcases k3 with ⟨-, e', f', bl', lp', rs', z1, z2, z3, z4, z5, z6, z7⟩ | ⟨z, -⟩
               · exact ih (1000 - (i + 1)) (by omega) m141 (i + 1) e' f' bl' lp' _ _ ff rs' k1 (c2.tr k2) z1 z3 z4 (by omega) (by omega) (by omega) (by omega) hff (fun v z => lg9 v (pu_LG.go (hst _ z2) z)) rfl
               · exact absurd hb150 z)
        · refine sp_iload X (pc := 153) (x := v141) dX10_goThrough_153 rfl ?_
          refine sp_ireturn X (pc := 155) dX10_goThrough_155 rfl ⟨_, rfl, ?_⟩
          rcases k3 with ⟨z, -⟩ | ⟨-, z⟩
          · exact absurd z hb150
          · exact ⟨k1, c2.tr k2, ff, hff, lg9 _ (pu_LG.end_ (hst _ z))⟩
      refine sp_iload X (pc := 26) (x := nI i) dX10_goThrough_26 rfl ?_
      refine sp_sipush X (pc := 28) (v := 1000) dX10_goThrough_28 (by decide) ?_
      refine sp_icmp_ge X (pc := 31) (tgt := 162) dX10_goThrough_31 (by decide) (fun hb31 => ?_) (fun hb31 => ?_)
      · exact absurd (sp_nge (b := 1000) hb31 (by omega) (by omega)) (by omega) --stop
      · have hi9 : i < 1000 := by omega
        refine sp_aload_n X (pc := 34) (r := some (A 6)) dX10_goThrough_34 rfl rfl ?_
        refine sp_getfield X (pc := 35) (c := 11) (i := 0) (t := 2) (a := (A 6)) (v := va_rf (some (A 5))) rfl (by first | assumption | omega) (by decide) rfl (congrArg va_rf (hS9.p 704 6 5 (by decide))) fl_Walk_9 dX10_goThrough_35 ?_
        refine sp_aload_n X (pc := 38) (r := some (A 6)) dX10_goThrough_38 rfl rfl ?_
        refine sp_getfield X (pc := 39) (c := 11) (i := 2) (t := 2) (a := (A 6)) (v := va_rf (some (NA f))) rfl (by first | assumption | omega) (by decide) rfl (congrArg va_rf w9.1.1) fl_Walk_28 dX10_goThrough_39 ?_
        refine sp_callV X (pc := 42) (mc := 0) (ms := 0) (b := (A 5)) (c := 10) (r := (some (A 5))) (As := [va_rf (some (NA f))]) (rest := []) (c_Tree_isOutside l G _ I9.J I9.tr N9 hW w9.1.2) ok_Tree_isOutside rfl u5 (by decide) rfl lk_Walk_45 rfl rfl (Nat.zero_le _) (Nat.le_of_ble_eq_true rfl) (Nat.le_of_ble_eq_true rfl) (Nat.zero_le _) (Nat.zero_le _) dX10_goThrough_42 (sp_kI fun v42 m42 hp42 => ?_)
        obtain ⟨hp42, hp42m⟩ := hp42; replace hp42m := (hp42m).symm; subst hp42m
        refine sp_if_eq X (pc := 45) (tgt := 50) dX10_goThrough_45 (by decide) (fun hb45 => ?_) (fun hb45 => ?_)
        · have hin : pu_ins T.o f := Classical.byContradiction fun z => hp42.eq hb45 z
          refine sp_aload_n X (pc := 50) (r := some (A 6)) dX10_goThrough_50 rfl rfl ?_
          refine sp_getfield X (pc := 51) (c := 11) (i := 1) (t := 2) (a := (A 6)) (v := va_rf (some (A 15))) rfl (by first | assumption | omega) (by decide) rfl (congrArg va_rf (hS9.p 705 6 15 (by decide))) fl_Walk_18 dX10_goThrough_51 ?_
          refine sp_callV X (pc := 54) (mc := 0) (ms := 0) (b := (A 15)) (c := 0) (r := (some (A 15))) (As := []) (rest := []) (c_List_isEmpty l G _ u15) ok_List_isEmpty rfl u15 (by decide) rfl lk_Walk_49 rfl rfl (Nat.zero_le _) (Nat.le_of_ble_eq_true rfl) (Nat.le_of_ble_eq_true rfl) (Nat.zero_le _) (Nat.zero_le _) dX10_goThrough_54 (sp_kI fun v54 m54 hp54 => ?_)
          obtain ⟨hp54v, hp54⟩ := hp54; replace hp54 := (hp54).symm; subst hp54; replace hp54v := (hp54v).symm; subst hp54v
          rw [w9.2.2.2.1.2.2.1]
          refine sp_if_eq X (pc := 57) (tgt := 80) dX10_goThrough_57 (by decide) (fun hb57 => ?_) (fun hb57 => ?_)
          · obtain ⟨u9, r9, hrs⟩ : ∃ u9 r9, rs = u9 :: r9 := by
              cases rs with
              | nil => rw [if_pos (by rfl)] at hb57; exact absurd hb57 (by decide)
              | cons u9 r9 => exact ⟨u9, r9, rfl⟩
            subst hrs
            refine sp_aload_n X (pc := 80) (r := some (A 6)) dX10_goThrough_80 rfl rfl ?_
            refine sp_getfield X (pc := 81) (c := 11) (i := 1) (t := 2) (a := (A 6)) (v := va_rf (some (A 15))) rfl (by first | assumption | omega) (by decide) rfl (congrArg va_rf (hS9.p 705 6 15 (by decide))) fl_Walk_18 dX10_goThrough_81 ?_
            refine sp_aload_n X (pc := 84) (r := some (A 6)) dX10_goThrough_84 rfl rfl ?_
            refine sp_getfield X (pc := 85) (c := 11) (i := 1) (t := 2) (a := (A 6)) (v := va_rf (some (A 15))) rfl (by first | assumption | omega) (by decide) rfl (congrArg va_rf (hS9.p 705 6 15 (by decide))) fl_Walk_18 dX10_goThrough_85 ?_
            refine sp_callV X (pc := 88) (mc := 0) (ms := 0) (b := (A 15)) (c := 0) (r := (some (A 15))) (As := []) (rest := [va_rf (some (A 15))]) (c_List_size l G _ u15) ok_List_size rfl u15 (by decide) rfl lk_Walk_58 rfl rfl (by simp [sp_cat_rf, sp_cat_i, sp_cat_l]) (Nat.le_of_ble_eq_true rfl) (Nat.le_of_ble_eq_true rfl) (Nat.zero_le _) (Nat.zero_le _) dX10_goThrough_88 (sp_kI fun v88 m88 hp88 => ?_)
            obtain ⟨hp88v, hp88⟩ := hp88; replace hp88 := (hp88).symm; subst hp88; replace hp88v := (hp88v).symm; subst hp88v
            rw [w9.2.2.2.1.2.2.1, List.length_cons]
            refine sp_iconst X (pc := 91) (v := 1) dX10_goThrough_91 (by decide) ?_
            refine sp_isub X (pc := 92) dX10_goThrough_92 ?_
            rw [show ((nI (r9.length + 1)) - 1) = nI r9.length from nI_pred r9.length]
            refine sp_callV X (pc := 93) (mc := 0) (ms := 0) (b := (A 15)) (c := 0) (r := (some (A 15))) (As := [.int (nI r9.length)]) (rest := []) (c_List_remove l G _ w9.2.2.2.1) ok_List_remove rfl u15 (by decide) rfl lk_Walk_62 rfl rfl (Nat.zero_le _) (Nat.le_of_ble_eq_true rfl) (Nat.le_of_ble_eq_true rfl) (Nat.zero_le _) (Nat.zero_le _) dX10_goThrough_93 (sp_kR fun v93 m93 hp93 => ?_)
            obtain ⟨hv93, hm93⟩ := hp93
            have li9 : sp_li G mm (A 15) e (r9.length + 1) := w9.2.2.2.1
            obtain ⟨nm, hnm, hnv⟩ := w9.2.2.2.hd
            have hnmt : mm.ty nm = 5 := by obtain ⟨b, s, z, -⟩ := hnv; exact z.1
            rw [hnm] at hv93
            subst hv93
            obtain ⟨m2, hm2⟩ : ∃ m2, m2 = m93 := ⟨_, rfl⟩
            have hsh : sp_sh mm m2 (A 15) e r9.length := by rw [hm2, hm93]; exact sp_sh.rm mm (A 15) e r9.length _
            obtain ⟨hI2, hli2⟩ := I9.shr sp_ix15 li9 (by omega) (Nat.zero_le _) hsh
            have hz25 : mm.ty e = 25 → m2.aR e = mm.aR e := fun z => by have := li9.2.2.2.1; have := li9.2.2.2.2.2; omega
            have hF2 : sp_F m m2 A sp_15 := F9.shr I9.J li9 hsh sp_ix15 sp_15.l hz25
            have hG2 : sp_F mm m2 A sp_15 := (sp_F.refl mm A sp_15).shr I9.J li9 hsh sp_ix15 sp_15.l hz25
            have hah2 : sp_ah G m2 A e r9 := w9.2.2.2.rm I9 hli2 hG2 hsh.2.2.2.2.2.2.2.2.2.2
            have hN2 := hN.F hI hF2 sp_15.n9 sp_15.n6 sp_15.n7
            have hnv2 := hnv.F I9.wf hG2
            have hln2 : m2.ln = mm.ln := hsh.2.2.1
            have hty2 : m2.ty = mm.ty := hsh.2.1
            have h708 : m2.fI 708 (A 6) = nI lp := by rw [hsh.2.2.2.2.2.2.2.1 708 (A 6) (by omega) (by omega)]; exact w9.2.2.1
            have hbl2 : m2.fI 707 (A 6) = nI bl := by rw [hsh.2.2.2.2.2.2.2.1 707 (A 6) (by omega) (by omega)]; exact w9.2.1
            have hfo2 : m2.fR 706 (A 6) = some (NA f) := by rw [hsh.2.2.2.1]; exact w9.1.1
            rw [← hm2]
            clear hm2 hm93 hsh
            have hS2 := hI2.S
            have y5 := hS2.k 5 11 (by decide)
            have y6 := hS2.k 6 12 (by decide)
            have y15 := hS2.k 15 1 (by decide)
            have hnm2 : m2.ty nm = 5 := by rw [hty2]; exact hnmt
            have hfot2 := (hN2.2.2 f w9.1.2).1
            obtain ⟨nb, nsm, hnmm, hnl, hnc⟩ := id hnv2
            refine sp_checkcast X (pc := 96) (a := nm) (c := 4) rfl hnm2 (by decide) cl_Walk_66 dX10_goThrough_96 ?_
            refine sp_astore X (pc := 99) (lv' := [(5, false, va_rf (some nm)), (0, false, va_rf (some (A 6))), (1, false, va_rf (some p)), (2, false, va_rf (some (NA fi))), (3, false, .int (nI y0)), (4, false, .int (nI i))]) dX10_goThrough_99  (by decide) rfl ?_
            refine sp_aload X (pc := 101) (r := some nm) dX10_goThrough_101 rfl ?_
            refine sp_callV X (pc := 103) (mc := 0) (ms := 0) (b := nm) (c := 4) (r := some nm) (As := []) (rest := []) (c_Name_isUp l G _ hnmm) ok_Name_isUp rfl hnm2 (by decide) rfl lk_Walk_68 rfl rfl (Nat.zero_le _) (Nat.le_of_ble_eq_true rfl) (Nat.le_of_ble_eq_true rfl) (Nat.zero_le _) (Nat.zero_le _) dX10_goThrough_103 (sp_kI fun v103 m103 hp103 => ?_)
            obtain ⟨hp103, hp103m⟩ := hp103; replace hp103m := (hp103m).symm; subst hp103m
            rw [propext (sp_isUp_pu hnl hnc)] at hp103
            refine sp_if_eq X (pc := 106) (tgt := 116) dX10_goThrough_106 (by decide) (fun hb106 => ?_) (fun hb106 => ?_)
            · have hup9 : ¬ pu_up u9 := hp103.eq hb106
              refine sp_aload_n X (pc := 116) (r := some (A 6)) dX10_goThrough_116 rfl rfl ?_
              refine sp_aload_n X (pc := 117) (r := some (A 6)) dX10_goThrough_117 rfl rfl ?_
              refine sp_getfield X (pc := 118) (c := 11) (i := 3) (t := 0) (a := (A 6)) (v := .int (nI bl)) rfl (by first | assumption | omega) (by decide) rfl (congrArg Value.int hbl2) fl_Walk_31 dX10_goThrough_118 ?_
              refine sp_if_le X (pc := 121) (tgt := 128) dX10_goThrough_121 (by decide) (fun hb121 => ?_) (fun hb121 => ?_)
              · have hb0 : bl = 0 := by
                  have := sp_nge (a := 0) hb121 (by omega) (by omega)
                  omega
                refine sp_aload_n X (pc := 128) (r := some (A 6)) dX10_goThrough_128 rfl rfl ?_
                refine sp_getfield X (pc := 129) (c := 11) (i := 0) (t := 2) (a := (A 6)) (v := va_rf (some (A 5))) rfl (by first | assumption | omega) (by decide) rfl (congrArg va_rf (hS2.p 704 6 5 (by decide))) fl_Walk_9 dX10_goThrough_129 ?_
                refine sp_aload_n X (pc := 132) (r := some (A 6)) dX10_goThrough_132 rfl rfl ?_
                refine sp_getfield X (pc := 133) (c := 11) (i := 2) (t := 2) (a := (A 6)) (v := va_rf (some (NA f))) rfl (by first | assumption | omega) (by decide) rfl (congrArg va_rf hfo2) fl_Walk_28 dX10_goThrough_133 ?_
                refine sp_aload X (pc := 136) (r := some nm) dX10_goThrough_136 rfl ?_
                refine sp_callV X (pc := 138) (mc := 0) (ms := 0) (b := (A 5)) (c := 10) (r := (some (A 5))) (As := [va_rf (some (NA f)), va_rf (some nm)]) (rest := [va_rf (some (A 6))]) (c_Tree_childOf l G _ hI2.J hI2.tr hN2 hW (hR2F m2 hF2) w9.1.2 hnv2) ok_Tree_childOf rfl y5 (by decide) rfl lk_Walk_74 rfl rfl (by simp [sp_cat_rf, sp_cat_i, sp_cat_l]) (Nat.le_of_ble_eq_true rfl) (Nat.le_of_ble_eq_true rfl) (Nat.zero_le _) (Nat.zero_le _) dX10_goThrough_138 (sp_kR fun v138 m138 hp138 => ?_)
                obtain ⟨hp138, hp138m⟩ := hp138; replace hp138m := (hp138m).symm; subst hp138m
                obtain ⟨o9, ho9, hv138⟩ := hp138
                refine sp_pick X [1, 2, 3, 4, 5] (lv' := [(0, false, va_rf (some (A 6))), (1, false, va_rf (some p)), (2, false, va_rf (some (NA fi))), (3, false, .int (nI y0)), (4, false, .int (nI i))]) rfl ?_
                first
                  | exact cut141 m2 u9 r9 none none hi9 hI2 hF2 hah2 h708 (by simp only [List.length_cons] at ht9; omega) (by rw [hln2]) (Or.inl ⟨hb0, rfl⟩) hfo2 hbl2 hin hup9 rfl (by simpa only [List.length_cons] using hst9)
                  | exact cut141 m2 u9 r9 v138 o9 hi9 hI2 hF2 hah2 h708 (by simp only [List.length_cons] at ht9; omega) (by rw [hln2]) (Or.inr ⟨hb0, ho9, hv138⟩) hfo2 hbl2 hin hup9 rfl (by simpa only [List.length_cons] using hst9)
              · have hb0 : 0 < bl := sp_nlt (a := 0) hb121 (by omega)
                refine sp_null X (pc := 124) dX10_goThrough_124 ?_
                refine sp_goto X (pc := 125) (tgt := 141) dX10_goThrough_125 (by decide) ?_
                refine sp_pick X [1, 2, 3, 4, 5] (lv' := [(0, false, va_rf (some (A 6))), (1, false, va_rf (some p)), (2, false, va_rf (some (NA fi))), (3, false, .int (nI y0)), (4, false, .int (nI i))]) rfl ?_
                first
                  | exact cut141 m2 u9 r9 none none hi9 hI2 hF2 hah2 h708 (by simp only [List.length_cons] at ht9; omega) (by rw [hln2]) (Or.inl ⟨hb0, rfl⟩) hfo2 hbl2 hin hup9 rfl (by simpa only [List.length_cons] using hst9)
                  | exact cut141 m2 u9 r9 v138 o9 hi9 hI2 hF2 hah2 h708 (by simp only [List.length_cons] at ht9; omega) (by rw [hln2]) (Or.inr ⟨hb0, ho9, hv138⟩) hfo2 hbl2 hin hup9 rfl (by simpa only [List.length_cons] using hst9)
            · have hup9 : pu_up u9 := hp103.ne hb106
              refine sp_aload_n X (pc := 109) (r := some (A 6)) dX10_goThrough_109 rfl rfl ?_
              refine sp_callV X (pc := 110) (mc := 0) (ms := 0) (b := (A 6)) (c := 11) (r := some (A 6)) (As := []) (rest := []) (c_Walk_goUp l G _ hG hI2 hN2 hW hfo2 w9.1.2 hbl2 (by omega)) ok_Walk_goUp rfl (by first | assumption | omega) (by decide) rfl lk_Walk_71 rfl rfl (Nat.zero_le _) (Nat.le_of_ble_eq_true rfl) (Nat.le_of_ble_eq_true rfl) (Nat.zero_le _) (Nat.zero_le _) dX10_goThrough_110 (sp_kI fun v110 m110 hp110 => ?_)
              obtain ⟨hv110, k1, k2, k4, f', bl', k6, k7, k8⟩ := hp110
              subst hv110
              have k5 := hah2.F hI2 k2 sp_W3.n
              have hst : pu_st R n T (pu_tp R TT) (pu_tf R TT) (f, bl, lp, u9 :: r9) (.inl (f', bl', lp, r9)) := by
                refine Or.inr (Or.inr ⟨hin, u9, r9, rfl, ?_⟩)
                rcases k8 with ⟨z1, z2, z3⟩ | ⟨z1, z2, z3⟩
                · exact Or.inl ⟨z1, hup9, by rw [z2, z3]⟩
                · exact Or.inr (Or.inr (Or.inl ⟨z1, hup9, by rw [z2, z3]⟩))
              have hbl' : bl' ≤ bl + 1 := by rcases k8 with ⟨z1, z2, z3⟩ | ⟨z1, z2, z3⟩ <;> omega
              refine sp_goto X (pc := 113) (tgt := 144) dX10_goThrough_113 (by decide) ?_
              refine sp_istore X (pc := 144) (lv' := [(6, false, .int (-4)), (5, false, va_rf (some nm)), (0, false, va_rf (some (A 6))), (1, false, va_rf (some p)), (2, false, va_rf (some (NA fi))), (3, false, .int (nI y0)), (4, false, .int (nI i))]) dX10_goThrough_144  (by decide) rfl ?_
              refine sp_iload X (pc := 146) (x := -4) dX10_goThrough_146 rfl ?_
              refine sp_bipush X (pc := 148) (v := (-4)) dX10_goThrough_148 (by decide) ?_
              refine sp_icmp_eq X (pc := 150) (tgt := 156) dX10_goThrough_150 (by decide) (fun hb150 => ?_) (fun hb150 => ?_)
              · refine sp_iinc X (pc := 156) (v := nI (i + 1)) (lv' := [(4, false, .int (nI (i + 1))), (6, false, .int (-4)), (5, false, va_rf (some nm)), (0, false, va_rf (some (A 6))), (1, false, va_rf (some p)), (2, false, va_rf (some (NA fi))), (3, false, .int (nI y0))]) dX10_goThrough_156 rfl (nI_1 i) (by decide) rfl ?_
                refine sp_goto X (pc := 159) (tgt := 26) dX10_goThrough_159 (by decide) ?_
                refine sp_pick X [3, 4, 5, 6, 0] (lv' := [(0, false, va_rf (some (A 6))), (1, false, va_rf (some p)), (2, false, va_rf (some (NA fi))), (3, false, .int (nI y0)), (4, false, .int (nI (i + 1)))]) rfl ?_
                first
                  | exact ih (1000 - (i + 1)) (by omega) m110 (i + 1) e f' bl' lp kk nn ff r9 k1 (hF2.tr k2.w3) ⟨k6, k7, k4.trans h708, k5.1⟩ hl9 (by simp only [List.length_cons] at ht9; omega) (by simp only [List.length_cons] at hst9; omega) (by omega) (by rw [k5.2, hln2]; exact hk9) (by rw [k5.2, hln2]; exact hn9) hff (fun v z => lg9 v (pu_LG.go hst z)) rfl
                  | (rcases k3 with ⟨-, e', f', bl', lp', rs', z1, z2, z3, z4, z5, z6, z7⟩ | ⟨z, -⟩
                     · exact ih (1000 - (i + 1)) (by omega) m141 (i + 1) e' f' bl' lp' _ _ ff rs' k1 (c2.tr k2) z1 z3 z4 (by omega) (by omega) (by omega) (by omega) hff (fun v z => lg9 v (pu_LG.go (hst _ z2) z)) rfl
                     · exact absurd hb150 z)
              · exact absurd rfl hb150 --stop
          · have hrs : rs = [] := by
              by_cases z : nI rs.length = 0
              · have := sp_neq (b := 0) z (by omega) (by omega)
                exact List.eq_nil_of_length_eq_zero this
              · rw [if_neg z] at hb57
                exact absurd rfl hb57
            refine sp_aload_n X (pc := 60) (r := some (A 6)) dX10_goThrough_60 rfl rfl ?_
            refine sp_getfield X (pc := 61) (c := 11) (i := 3) (t := 0) (a := (A 6)) (v := .int (nI bl)) rfl (by first | assumption | omega) (by decide) rfl (congrArg Value.int w9.2.1) fl_Walk_31 dX10_goThrough_61 ?_
            refine sp_if_le X (pc := 64) (tgt := 72) dX10_goThrough_64 (by decide) (fun hb64 => ?_) (fun hb64 => ?_)
            · have hb0 : bl = 0 := by
                have := sp_nge (a := 0) hb64 (by omega) (by omega)
                omega
              refine sp_aload_n X (pc := 72) (r := some (A 6)) dX10_goThrough_72 rfl rfl ?_
              refine sp_getfield X (pc := 73) (c := 11) (i := 2) (t := 2) (a := (A 6)) (v := va_rf (some (NA f))) rfl (by first | assumption | omega) (by decide) rfl (congrArg va_rf w9.1.1) fl_Walk_28 dX10_goThrough_73 ?_
              refine sp_getfield X (pc := 76) (c := 5) (i := 0) (t := 0) (a := (NA f)) (v := .int (mm.fI 320 (NA f))) rfl (N9.2.2 f w9.1.2).1 (by decide) rfl rfl fl_Walk_53 dX10_goThrough_76 ?_
              refine sp_ireturn X (pc := 79) dX10_goThrough_79 rfl ⟨_, rfl, ?_⟩
              first
                | exact ⟨I9, F9, ff, hff, lg9 _ (pu_LG.end_ (Or.inr (Or.inl ⟨hin, hrs, Or.inl ⟨hb0, rfl⟩⟩)))⟩
                | (rw [(N9.2.2 f w9.1.2).2.1]
                   exact ⟨I9, F9, ff, hff, lg9 _ (pu_LG.end_ (Or.inr (Or.inl ⟨hin, hrs, Or.inr ⟨hb0, rfl⟩⟩)))⟩)
            · have hb0 : 0 < bl := sp_nlt (a := 0) hb64 (by omega)
              refine sp_bipush X (pc := 67) (v := (-2)) dX10_goThrough_67 (by decide) ?_
              refine sp_goto X (pc := 69) (tgt := 79) dX10_goThrough_69 (by decide) ?_
              refine sp_ireturn X (pc := 79) dX10_goThrough_79 rfl ⟨_, rfl, ?_⟩
              first
                | exact ⟨I9, F9, ff, hff, lg9 _ (pu_LG.end_ (Or.inr (Or.inl ⟨hin, hrs, Or.inl ⟨hb0, rfl⟩⟩)))⟩
                | (rw [(N9.2.2 f w9.1.2).2.1]
                   exact ⟨I9, F9, ff, hff, lg9 _ (pu_LG.end_ (Or.inr (Or.inl ⟨hin, hrs, Or.inr ⟨hb0, rfl⟩⟩)))⟩)
        · refine sp_iconst X (pc := 48) (v := (-1)) dX10_goThrough_48 (by decide) ?_
          refine sp_ireturn X (pc := 49) dX10_goThrough_49 rfl ⟨_, rfl, ?_⟩
          exact ⟨I9, F9, ff, hff, lg9 _ (pu_LG.end_ (Or.inl ⟨hp42.ne hb45, rfl⟩))⟩
  refine sp_pick X [1, 2, 3, 4, 0] (lv' := [(0, false, va_rf (some (A 6))), (1, false, va_rf (some p)), (2, false, va_rf (some (NA fi))), (3, false, .int (nI y0)), (4, false, .int 0)]) rfl ?_
  refine sp_less X (k' := 6810 - sp_gw sp 0 (m.ln ed)) (n' := 4 * (6810 - sp_gw sp 0 (m.ln ed))) (by omega) (by omega) ?_
  exact loop26 _ m20 0 e' ff y0 0 _ _ ff us j1 hF3 ⟨j7, j9, j6, j4⟩ (by omega) (by omega) (by omega) (by omega) (by rw [j5]; exact Nat.le_refl _) (by rw [j5]; exact Nat.le_refl _) j10 (fun _ z => z) rfl
