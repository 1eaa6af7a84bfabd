
def sp_mkD (m : sp_M) (o : Nat) (num : Int32) (f nm b t : Option Nat) (dd : Int32) : sp_M := (((((((m.pI 320 o num).pR 321 o f).pR 322 o nm).pR 323 o b).pR 324 o t).pI 325 o dd).pI 326 o 0).pI 327 o 0
def sp_mkE (m : sp_M) (o : Nat) (kd : Int32) (p q : Option Nat) (wi : Int32) (sz : Int64) : sp_M := ((((m.pI 192 o kd).pR 193 o p).pR 194 o q).pI 195 o wi).pL 196 o sz
def sp_mkB (m : sp_M) (o : Nat) (num : Int32) (sz : Int64) (v : Int32) : sp_M := ((m.pI 64 o num).pL 65 o sz).pI 66 o v
def sp_mkO (m : sp_M) (o : Nat) (f : Option Nat) (sh : Int32) : sp_M := (m.pR 384 o f).pI 385 o sh
def sp_b01 (x : Int32) : Prop := x = 0 ∨ x = 1
theorem sp_b01.fit {x : Int32} (h : sp_b01 x) : sp_fit .boolean (.int x) := by
  rcases h with rfl | rfl <;> exact ⟨rfl, rfl⟩
theorem sp_b01.nar {x : Int32} (h : sp_b01 x) : narrow .boolean (.int x) = .int x := by
  rcases h with rfl | rfl <;> rfl
theorem sp_bo.b01 {v : Int32} {p : Prop} (h : sp_bo v p) : sp_b01 v := by
  rcases h with ⟨h, -⟩ | ⟨h, -⟩
  · exact Or.inr h
  · exact Or.inl h
/-- the draft d, its row db, n bytes -/
def sp_dr (m : sp_M) (d db n : Nat) : Prop := m.ty d = 3 ∧ m.fR 128 d = some db ∧ m.ty db = 20 ∧ m.ln db = 160 ∧ m.fI 129 d = nI n ∧ n ≤ 160
/-- a byte that parts, by the RULES at rl -/
def sp_dv (m : sp_M) (rl : Nat) (x : Int32) : Prop := x = 47 ∨ (¬ m.fI 512 rl = 0 ∧ x = 92)
abbrev sp_ltr (x : Int32) : Prop := pu_ltr x
set_option maxRecDepth 20000 in
theorem c_Node_init (l : Launch) (G : sp_G) (m : sp_M) {o : Nat} {num dd : Int32} {f nm b t : Option Nat} (ho : m.ty o = 6) (hd : sp_b01 dd) : sp_C l G M_Node_init 0 0 [.ref o, .int num, va_rf f, va_rf nm, va_rf b, va_rf t, .int dd] m (sp_oV fun m' => m' = sp_mkD m o num f nm b t dd) := by
  refine sp_enter (lv0 := [(0, false, va_rf (some o)), (1, false, .int num), (2, false, va_rf f), (3, false, va_rf nm), (4, false, va_rf b), (5, false, va_rf t), (6, false, .int dd)]) "SafePaths$Node" true rfl (by decide) (fun _ => rfl) (by simp [lg_sl, sp_cat_rf, sp_cat_i, sp_cat_l, sp_cat_ref]) (by simp [sp_args, sp_cat_rf, sp_cat_i, sp_cat_l, sp_beq12, sp_beq22, sp_cat_ref, sp_rf_some]; done) ?_
  intro w X
  refine sp_aload_n X (pc := 0) (r := some o) dX4_init_0 rfl rfl ?_
  refine sp_objInit X (pc := 1) (a := o) rfl lk_Node_1 oi_1 oi_2 (Nat.le_of_ble_eq_true rfl) (Nat.le_of_ble_eq_true rfl) dX4_init_1 ?_
  refine sp_aload_n X (pc := 4) (r := some o) dX4_init_4 rfl rfl ?_
  refine sp_iload_n X (pc := 5) (x := num) dX4_init_5 rfl rfl ?_
  refine sp_putI X (pc := 6) (c := 5) (i := 0) (q := 320) (a := o) rfl (by first | assumption | omega) (by decide) rfl rfl (Or.inr ⟨rfl, rfl, rfl⟩) ⟨rfl, rfl⟩ fl_Node_7 dX4_init_6 ?_
  refine sp_aload_n X (pc := 9) (r := some o) dX4_init_9 rfl rfl ?_
  refine sp_aload_n X (pc := 10) (r := f) dX4_init_10 rfl rfl ?_
  refine sp_putR X (pc := 11) (c := 5) (i := 1) (q := 321) (a := o) rfl (by first | assumption | omega) (by decide) rfl rfl (Or.inr ⟨rfl, rfl, rfl⟩)  fl_Node_13 dX4_init_11 ?_
  refine sp_aload_n X (pc := 14) (r := some o) dX4_init_14 rfl rfl ?_
  refine sp_aload_n X (pc := 15) (r := nm) dX4_init_15 rfl rfl ?_
  refine sp_putR X (pc := 16) (c := 5) (i := 2) (q := 322) (a := o) rfl (by first | assumption | omega) (by decide) rfl rfl (Or.inr ⟨rfl, rfl, rfl⟩)  fl_Node_17 dX4_init_16 ?_
  refine sp_aload_n X (pc := 19) (r := some o) dX4_init_19 rfl rfl ?_
  refine sp_aload X (pc := 20) (r := b) dX4_init_20 rfl ?_
  refine sp_putR X (pc := 22) (c := 5) (i := 3) (q := 323) (a := o) rfl (by first | assumption | omega) (by decide) rfl rfl (Or.inr ⟨rfl, rfl, rfl⟩)  fl_Node_21 dX4_init_22 ?_
  refine sp_aload_n X (pc := 25) (r := some o) dX4_init_25 rfl rfl ?_
  refine sp_aload X (pc := 26) (r := t) dX4_init_26 rfl ?_
  refine sp_putR X (pc := 28) (c := 5) (i := 4) (q := 324) (a := o) rfl (by first | assumption | omega) (by decide) rfl rfl (Or.inr ⟨rfl, rfl, rfl⟩)  fl_Node_25 dX4_init_28 ?_
  refine sp_aload_n X (pc := 31) (r := some o) dX4_init_31 rfl rfl ?_
  refine sp_iload X (pc := 32) (x := dd) dX4_init_32 rfl ?_
  refine sp_putI X (pc := 34) (c := 5) (i := 5) (q := 325) (a := o) rfl (by first | assumption | omega) (by decide) rfl rfl (Or.inr ⟨rfl, rfl, rfl⟩) hd.fit fl_Node_29 dX4_init_34 ?_
  refine sp_aload_n X (pc := 37) (r := some o) dX4_init_37 rfl rfl ?_
  refine sp_iconst X (pc := 38) (v := 0) dX4_init_38 (by decide) ?_
  refine sp_putI X (pc := 39) (c := 5) (i := 6) (q := 326) (a := o) rfl (by first | assumption | omega) (by decide) rfl rfl (Or.inl rfl) ⟨rfl, rfl⟩ fl_Node_33 dX4_init_39 ?_
  refine sp_aload_n X (pc := 42) (r := some o) dX4_init_42 rfl rfl ?_
  refine sp_iconst X (pc := 43) (v := 0) dX4_init_43 (by decide) ?_
  refine sp_putI X (pc := 44) (c := 5) (i := 7) (q := 327) (a := o) rfl (by first | assumption | omega) (by decide) rfl rfl (Or.inl rfl) ⟨rfl, rfl⟩ fl_Node_36 dX4_init_44 ?_
  refine sp_return X (pc := 47) dX4_init_47 ⟨rfl, ?_⟩
  first | exact ⟨rfl, rfl⟩ | rfl | (refine ⟨?_, rfl⟩; first | (rw [if_pos (by assumption)]; done) | (rw [if_neg (by assumption)]; done) | (split <;> simp_all; done))
set_option maxRecDepth 20000 in
theorem c_Body_init (l : Launch) (G : sp_G) (m : sp_M) {o : Nat} {num v : Int32} {sz : Int64} (ho : m.ty o = 2) : sp_C l G M_Body_init 0 0 [.ref o, .int num, .long sz, .int v] m (sp_oV fun m' => m' = sp_mkB m o num sz v) := by
  refine sp_enter (lv0 := [(0, false, va_rf (some o)), (1, false, .int num), (2, true, .long sz), (4, false, .int v)]) "SafePaths$Body" true rfl (by decide) (fun _ => rfl) (Nat.le_of_ble_eq_true rfl) rfl ?_
  intro w X
  refine sp_aload_n X (pc := 0) (r := some o) dX0_init_0 rfl rfl ?_
  refine sp_objInit X (pc := 1) (a := o) rfl lk_Body_1 oi_1 oi_2 (Nat.le_of_ble_eq_true rfl) (Nat.le_of_ble_eq_true rfl) dX0_init_1 ?_
  refine sp_aload_n X (pc := 4) (r := some o) dX0_init_4 rfl rfl ?_
  refine sp_iload_n X (pc := 5) (x := num) dX0_init_5 rfl rfl ?_
  refine sp_putI X (pc := 6) (c := 1) (i := 0) (q := 64) (a := o) rfl (by first | assumption | omega) (by decide) rfl rfl (Or.inr ⟨rfl, rfl, rfl⟩) ⟨rfl, rfl⟩ fl_Body_7 dX0_init_6 ?_
  refine sp_aload_n X (pc := 9) (r := some o) dX0_init_9 rfl rfl ?_
  refine sp_lload_n X (pc := 10) (x := sz) dX0_init_10 rfl rfl ?_
  refine sp_putL X (pc := 11) (c := 1) (i := 1) (q := 65) (a := o) rfl (by first | assumption | omega) (by decide) rfl rfl (Or.inr ⟨rfl, rfl, rfl⟩)  fl_Body_13 dX0_init_11 ?_
  refine sp_aload_n X (pc := 14) (r := some o) dX0_init_14 rfl rfl ?_
  refine sp_iload X (pc := 15) (x := v) dX0_init_15 rfl ?_
  refine sp_putI X (pc := 17) (c := 1) (i := 2) (q := 66) (a := o) rfl (by first | assumption | omega) (by decide) rfl rfl (Or.inr ⟨rfl, rfl, rfl⟩) ⟨rfl, rfl⟩ fl_Body_17 dX0_init_17 ?_
  refine sp_return X (pc := 20) dX0_init_20 ⟨rfl, ?_⟩
  first | exact ⟨rfl, rfl⟩ | rfl | (refine ⟨?_, rfl⟩; first | (rw [if_pos (by assumption)]; done) | (rw [if_neg (by assumption)]; done) | (split <;> simp_all; done))
set_option maxRecDepth 20000 in
theorem c_Entry_init (l : Launch) (G : sp_G) (m : sp_M) {o : Nat} {kd wi : Int32} {p q : Option Nat} {sz : Int64} (ho : m.ty o = 4) : sp_C l G M_Entry_init 0 0 [.ref o, .int kd, va_rf p, va_rf q, .int wi, .long sz] m (sp_oV fun m' => m' = sp_mkE m o kd p q wi sz) := by
  refine sp_enter (lv0 := [(0, false, va_rf (some o)), (1, false, .int kd), (2, false, va_rf p), (3, false, va_rf q), (4, false, .int wi), (5, true, .long sz)]) "SafePaths$Entry" true rfl (by decide) (fun _ => rfl) (by simp [lg_sl, sp_cat_rf, sp_cat_i, sp_cat_l, sp_cat_ref]) (by simp [sp_args, sp_cat_rf, sp_cat_i, sp_cat_l, sp_beq12, sp_beq22, sp_cat_ref, sp_rf_some]; done) ?_
  intro w X
  refine sp_aload_n X (pc := 0) (r := some o) dX2_init_0 rfl rfl ?_
  refine sp_objInit X (pc := 1) (a := o) rfl lk_Entry_1 oi_1 oi_2 (Nat.le_of_ble_eq_true rfl) (Nat.le_of_ble_eq_true rfl) dX2_init_1 ?_
  refine sp_aload_n X (pc := 4) (r := some o) dX2_init_4 rfl rfl ?_
  refine sp_iload_n X (pc := 5) (x := kd) dX2_init_5 rfl rfl ?_
  refine sp_putI X (pc := 6) (c := 3) (i := 0) (q := 192) (a := o) rfl (by first | assumption | omega) (by decide) rfl rfl (Or.inr ⟨rfl, rfl, rfl⟩) ⟨rfl, rfl⟩ fl_Entry_7 dX2_init_6 ?_
  refine sp_aload_n X (pc := 9) (r := some o) dX2_init_9 rfl rfl ?_
  refine sp_aload_n X (pc := 10) (r := p) dX2_init_10 rfl rfl ?_
  refine sp_putR X (pc := 11) (c := 3) (i := 1) (q := 193) (a := o) rfl (by first | assumption | omega) (by decide) rfl rfl (Or.inr ⟨rfl, rfl, rfl⟩)  fl_Entry_13 dX2_init_11 ?_
  refine sp_aload_n X (pc := 14) (r := some o) dX2_init_14 rfl rfl ?_
  refine sp_aload_n X (pc := 15) (r := q) dX2_init_15 rfl rfl ?_
  refine sp_putR X (pc := 16) (c := 3) (i := 2) (q := 194) (a := o) rfl (by first | assumption | omega) (by decide) rfl rfl (Or.inr ⟨rfl, rfl, rfl⟩)  fl_Entry_17 dX2_init_16 ?_
  refine sp_aload_n X (pc := 19) (r := some o) dX2_init_19 rfl rfl ?_
  refine sp_iload X (pc := 20) (x := wi) dX2_init_20 rfl ?_
  refine sp_putI X (pc := 22) (c := 3) (i := 3) (q := 195) (a := o) rfl (by first | assumption | omega) (by decide) rfl rfl (Or.inr ⟨rfl, rfl, rfl⟩) ⟨rfl, rfl⟩ fl_Entry_20 dX2_init_22 ?_
  refine sp_aload_n X (pc := 25) (r := some o) dX2_init_25 rfl rfl ?_
  refine sp_lload X (pc := 26) (x := sz) dX2_init_26 rfl ?_
  refine sp_putL X (pc := 28) (c := 3) (i := 4) (q := 196) (a := o) rfl (by first | assumption | omega) (by decide) rfl rfl (Or.inr ⟨rfl, rfl, rfl⟩)  fl_Entry_23 dX2_init_28 ?_
  refine sp_return X (pc := 31) dX2_init_31 ⟨rfl, ?_⟩
  first | exact ⟨rfl, rfl⟩ | rfl | (refine ⟨?_, rfl⟩; first | (rw [if_pos (by assumption)]; done) | (rw [if_neg (by assumption)]; done) | (split <;> simp_all; done))
set_option maxRecDepth 20000 in
theorem c_Note_init (l : Launch) (G : sp_G) (m : sp_M) {o : Nat} {sh : Int32} {f : Option Nat} (ho : m.ty o = 7) (hd : sp_b01 sh) : sp_C l G M_Note_init 0 0 [.ref o, va_rf f, .int sh] m (sp_oV fun m' => m' = sp_mkO m o f sh) := by
  refine sp_enter (lv0 := [(0, false, va_rf (some o)), (1, false, va_rf f), (2, false, .int sh)]) "SafePaths$Note" true rfl (by decide) (fun _ => rfl) (by simp [lg_sl, sp_cat_rf, sp_cat_i, sp_cat_l, sp_cat_ref]) (by simp [sp_args, sp_cat_rf, sp_cat_i, sp_cat_l, sp_beq12, sp_beq22, sp_cat_ref, sp_rf_some]; done) ?_
  intro w X
  refine sp_aload_n X (pc := 0) (r := some o) dX5_init_0 rfl rfl ?_
  refine sp_objInit X (pc := 1) (a := o) rfl lk_Note_1 oi_1 oi_2 (Nat.le_of_ble_eq_true rfl) (Nat.le_of_ble_eq_true rfl) dX5_init_1 ?_
  refine sp_aload_n X (pc := 4) (r := some o) dX5_init_4 rfl rfl ?_
  refine sp_aload_n X (pc := 5) (r := f) dX5_init_5 rfl rfl ?_
  refine sp_putR X (pc := 6) (c := 6) (i := 0) (q := 384) (a := o) rfl (by first | assumption | omega) (by decide) rfl rfl (Or.inr ⟨rfl, rfl, rfl⟩)  fl_Note_7 dX5_init_6 ?_
  refine sp_aload_n X (pc := 9) (r := some o) dX5_init_9 rfl rfl ?_
  refine sp_iload_n X (pc := 10) (x := sh) dX5_init_10 rfl rfl ?_
  refine sp_putI X (pc := 11) (c := 6) (i := 1) (q := 385) (a := o) rfl (by first | assumption | omega) (by decide) rfl rfl (Or.inr ⟨rfl, rfl, rfl⟩) hd.fit fl_Note_13 dX5_init_11 ?_
  refine sp_return X (pc := 14) dX5_init_14 ⟨rfl, ?_⟩
  first | exact ⟨rfl, rfl⟩ | rfl | (refine ⟨?_, rfl⟩; first | (rw [if_pos (by assumption)]; done) | (rw [if_neg (by assumption)]; done) | (split <;> simp_all; done))
set_option maxRecDepth 20000 in
theorem c_Node_state (l : Launch) (G : sp_G) (m : sp_M) {o : Nat} (ho : m.ty o = 6) : sp_C l G M_Node_state 0 0 [.ref o] m (sp_oI fun v m' => ((v = -1 ∧ ¬ m.fI 327 o = 0) ∨ (m.fI 327 o = 0 ∧ ((v = 2 ∧ ¬ m.fR 323 o = none) ∨ (m.fR 323 o = none ∧ ((¬ m.fR 324 o = none ∧ ((v = 4 ∧ ¬ m.fI 325 o = 0) ∨ (v = 3 ∧ m.fI 325 o = 0))) ∨ (m.fR 324 o = none ∧ ((v = 1 ∧ ¬ m.fI 326 o = 0) ∨ (v = 0 ∧ m.fI 326 o = 0)))))))) ∧ m' = m) := by
  refine sp_enter (lv0 := [(0, false, va_rf (some o))]) "SafePaths$Node" false rfl (by decide) (fun h => by cases h) (Nat.le_of_ble_eq_true rfl) rfl ?_
  intro w X
  refine sp_aload_n X (pc := 0) (r := some o) dX4_state_0 rfl rfl ?_
  refine sp_getfield X (pc := 1) (c := 5) (i := 7) (t := 0) (a := o) (v := .int (m.fI 327 o)) rfl (by first | assumption | omega) (by decide) rfl rfl fl_Node_36 dX4_state_1 ?_
  refine sp_if_eq X (pc := 4) (tgt := 9) dX4_state_4 (by decide) (fun hb4 => ?_) (fun hb4 => ?_)
  · refine sp_aload_n X (pc := 9) (r := some o) dX4_state_9 rfl rfl ?_
    refine sp_getfield X (pc := 10) (c := 5) (i := 3) (t := 2) (a := o) (v := va_rf (m.fR 323 o)) rfl (by first | assumption | omega) (by decide) rfl rfl fl_Node_21 dX4_state_10 ?_
    refine sp_ifnull X (pc := 13) (tgt := 18) dX4_state_13 (by decide) (fun hb13 => ?_) (fun ra13 hb13 => ?_)
    · refine sp_aload_n X (pc := 18) (r := some o) dX4_state_18 rfl rfl ?_
      refine sp_getfield X (pc := 19) (c := 5) (i := 4) (t := 2) (a := o) (v := va_rf (m.fR 324 o)) rfl (by first | assumption | omega) (by decide) rfl rfl fl_Node_25 dX4_state_19 ?_
      refine sp_ifnull X (pc := 22) (tgt := 38) dX4_state_22 (by decide) (fun hb22 => ?_) (fun ra22 hb22 => ?_)
      · refine sp_aload_n X (pc := 38) (r := some o) dX4_state_38 rfl rfl ?_
        refine sp_getfield X (pc := 39) (c := 5) (i := 6) (t := 0) (a := o) (v := .int (m.fI 326 o)) rfl (by first | assumption | omega) (by decide) rfl rfl fl_Node_33 dX4_state_39 ?_
        refine sp_if_eq X (pc := 42) (tgt := 49) dX4_state_42 (by decide) (fun hb42 => ?_) (fun hb42 => ?_)
        · refine sp_iconst X (pc := 49) (v := 0) dX4_state_49 (by decide) ?_
          refine sp_ireturn X (pc := 50) dX4_state_50 rfl ⟨_, rfl, ?_⟩
          first
            | exact ⟨Or.inr ⟨hb4, Or.inr ⟨hb13, Or.inr ⟨hb22, Or.inl ⟨rfl, hb42⟩⟩⟩⟩, rfl⟩
            | exact ⟨Or.inr ⟨hb4, Or.inr ⟨hb13, Or.inr ⟨hb22, Or.inr ⟨rfl, hb42⟩⟩⟩⟩, rfl⟩
        · refine sp_iconst X (pc := 45) (v := 1) dX4_state_45 (by decide) ?_
          refine sp_goto X (pc := 46) (tgt := 50) dX4_state_46 (by decide) ?_
          refine sp_ireturn X (pc := 50) dX4_state_50 rfl ⟨_, rfl, ?_⟩
          first
            | exact ⟨Or.inr ⟨hb4, Or.inr ⟨hb13, Or.inr ⟨hb22, Or.inl ⟨rfl, hb42⟩⟩⟩⟩, rfl⟩
            | exact ⟨Or.inr ⟨hb4, Or.inr ⟨hb13, Or.inr ⟨hb22, Or.inr ⟨rfl, hb42⟩⟩⟩⟩, rfl⟩
      · refine sp_aload_n X (pc := 25) (r := some o) dX4_state_25 rfl rfl ?_
        refine sp_getfield X (pc := 26) (c := 5) (i := 5) (t := 0) (a := o) (v := .int (m.fI 325 o)) rfl (by first | assumption | omega) (by decide) rfl rfl fl_Node_29 dX4_state_26 ?_
        refine sp_if_eq X (pc := 29) (tgt := 36) dX4_state_29 (by decide) (fun hb29 => ?_) (fun hb29 => ?_)
        · refine sp_iconst X (pc := 36) (v := 3) dX4_state_36 (by decide) ?_
          refine sp_ireturn X (pc := 37) dX4_state_37 rfl ⟨_, rfl, ?_⟩
          first
            | exact ⟨Or.inr ⟨hb4, Or.inr ⟨hb13, Or.inl ⟨(by rw [hb22]; simp), Or.inl ⟨rfl, hb29⟩⟩⟩⟩, rfl⟩
            | exact ⟨Or.inr ⟨hb4, Or.inr ⟨hb13, Or.inl ⟨(by rw [hb22]; simp), Or.inr ⟨rfl, hb29⟩⟩⟩⟩, rfl⟩
        · refine sp_iconst X (pc := 32) (v := 4) dX4_state_32 (by decide) ?_
          refine sp_goto X (pc := 33) (tgt := 37) dX4_state_33 (by decide) ?_
          refine sp_ireturn X (pc := 37) dX4_state_37 rfl ⟨_, rfl, ?_⟩
          first
            | exact ⟨Or.inr ⟨hb4, Or.inr ⟨hb13, Or.inl ⟨(by rw [hb22]; simp), Or.inl ⟨rfl, hb29⟩⟩⟩⟩, rfl⟩
            | exact ⟨Or.inr ⟨hb4, Or.inr ⟨hb13, Or.inl ⟨(by rw [hb22]; simp), Or.inr ⟨rfl, hb29⟩⟩⟩⟩, rfl⟩
    · refine sp_iconst X (pc := 16) (v := 2) dX4_state_16 (by decide) ?_
      refine sp_ireturn X (pc := 17) dX4_state_17 rfl ⟨_, rfl, ?_⟩
      exact ⟨Or.inr ⟨hb4, Or.inl ⟨rfl, by rw [hb13]; simp⟩⟩, rfl⟩
  · refine sp_iconst X (pc := 7) (v := (-1)) dX4_state_7 (by decide) ?_
    refine sp_ireturn X (pc := 8) dX4_state_8 rfl ⟨_, rfl, ?_⟩
    exact ⟨Or.inl ⟨rfl, hb4⟩, rfl⟩
set_option maxRecDepth 20000 in
theorem c_Rules_init (l : Launch) (G : sp_G) (m : sp_M) {o : Nat} {r : Int32} (ho : m.ty o = 9) : sp_C l G M_Rules_init 0 0 [.ref o, .int r] m (sp_oV fun m' => ∃ x1 x2 x3 x4 x5 x6, sp_bo x1 (¬ r &&& 1 = 0) ∧ sp_bo x2 (¬ r &&& 2 = 0) ∧ sp_bo x3 (¬ r &&& 4 = 0) ∧ sp_bo x4 (¬ r &&& 8 = 0) ∧ sp_bo x5 (¬ r &&& 16 = 0) ∧ sp_bo x6 (¬ r &&& 32 = 0) ∧ m' = ((((((m.pI 512 o x1).pI 513 o x2).pI 514 o x3).pI 515 o x4).pI 516 o x5).pI 517 o x6)) := by
  refine sp_enter (lv0 := [(0, false, va_rf (some o)), (1, false, .int r)]) "SafePaths$Rules" true rfl (by decide) (fun _ => rfl) (Nat.le_of_ble_eq_true rfl) rfl ?_
  intro w X
  have cut94 : ∀ (x1 x2 x3 x4 x5 x6 : Int32), sp_bo x1 (¬ r &&& 1 = 0) → sp_bo x2 (¬ r &&& 2 = 0) → sp_bo x3 (¬ r &&& 4 = 0) → sp_bo x4 (¬ r &&& 8 = 0) → sp_bo x5 (¬ r &&& 16 = 0) → sp_bo x6 (¬ r &&& 32 = 0) → w 0 0 (((((m.pI 512 o x1).pI 513 o x2).pI 514 o x3).pI 515 o x4).pI 516 o x5) 94 [(0, false, va_rf (some o)), (1, false, .int r)] [.int x6, va_rf (some o)] := by
    intro x1 x2 x3 x4 x5 x6 h1 h2 h3 h4 h5 h6
    refine sp_putI X (pc := 94) (c := 8) (i := 5) (q := 517) (a := o) rfl (by first | assumption | omega) (by decide) rfl rfl (Or.inr ⟨rfl, rfl, rfl⟩) h6.fit fl_Rules_27 dX7_init_94 ?_
    refine sp_return X (pc := 97) dX7_init_97 ⟨rfl, ?_⟩
    exact ⟨x1, x2, x3, x4, x5, x6, h1, h2, h3, h4, h5, h6, rfl⟩
  have cut78 : ∀ (x1 x2 x3 x4 x5 : Int32), sp_bo x1 (¬ r &&& 1 = 0) → sp_bo x2 (¬ r &&& 2 = 0) → sp_bo x3 (¬ r &&& 4 = 0) → sp_bo x4 (¬ r &&& 8 = 0) → sp_bo x5 (¬ r &&& 16 = 0) → w 0 0 ((((m.pI 512 o x1).pI 513 o x2).pI 514 o x3).pI 515 o x4) 78 [(0, false, va_rf (some o)), (1, false, .int r)] [.int x5, va_rf (some o)] := by
    intro x1 x2 x3 x4 x5 h1 h2 h3 h4 h5
    refine sp_putI X (pc := 78) (c := 8) (i := 4) (q := 516) (a := o) rfl (by first | assumption | omega) (by decide) rfl rfl (Or.inr ⟨rfl, rfl, rfl⟩) h5.fit fl_Rules_24 dX7_init_78 ?_
    refine sp_aload_n X (pc := 81) (r := some o) dX7_init_81 rfl rfl ?_
    refine sp_iload_n X (pc := 82) (x := r) dX7_init_82 rfl rfl ?_
    refine sp_bipush X (pc := 83) (v := 32) dX7_init_83 (by decide) ?_
    refine sp_iand X (pc := 85) dX7_init_85 ?_
    refine sp_if_eq X (pc := 86) (tgt := 93) dX7_init_86 (by decide) (fun hb86 => ?_) (fun hb86 => ?_)
    · refine sp_iconst X (pc := 93) (v := 0) dX7_init_93 (by decide) ?_
      first
        | exact cut94 _ _ _ _ _ _ h1 h2 h3 h4 h5 (sp_bo.t hb86)
        | exact cut94 _ _ _ _ _ _ h1 h2 h3 h4 h5 (sp_bo.f (fun q => q hb86))
    · refine sp_iconst X (pc := 89) (v := 1) dX7_init_89 (by decide) ?_
      refine sp_goto X (pc := 90) (tgt := 94) dX7_init_90 (by decide) ?_
      first
        | exact cut94 _ _ _ _ _ _ h1 h2 h3 h4 h5 (sp_bo.t hb86)
        | exact cut94 _ _ _ _ _ _ h1 h2 h3 h4 h5 (sp_bo.f (fun q => q hb86))
  have cut62 : ∀ (x1 x2 x3 x4 : Int32), sp_bo x1 (¬ r &&& 1 = 0) → sp_bo x2 (¬ r &&& 2 = 0) → sp_bo x3 (¬ r &&& 4 = 0) → sp_bo x4 (¬ r &&& 8 = 0) → w 0 0 (((m.pI 512 o x1).pI 513 o x2).pI 514 o x3) 62 [(0, false, va_rf (some o)), (1, false, .int r)] [.int x4, va_rf (some o)] := by
    intro x1 x2 x3 x4 h1 h2 h3 h4
    refine sp_putI X (pc := 62) (c := 8) (i := 3) (q := 515) (a := o) rfl (by first | assumption | omega) (by decide) rfl rfl (Or.inr ⟨rfl, rfl, rfl⟩) h4.fit fl_Rules_21 dX7_init_62 ?_
    refine sp_aload_n X (pc := 65) (r := some o) dX7_init_65 rfl rfl ?_
    refine sp_iload_n X (pc := 66) (x := r) dX7_init_66 rfl rfl ?_
    refine sp_bipush X (pc := 67) (v := 16) dX7_init_67 (by decide) ?_
    refine sp_iand X (pc := 69) dX7_init_69 ?_
    refine sp_if_eq X (pc := 70) (tgt := 77) dX7_init_70 (by decide) (fun hb70 => ?_) (fun hb70 => ?_)
    · refine sp_iconst X (pc := 77) (v := 0) dX7_init_77 (by decide) ?_
      first
        | exact cut78 _ _ _ _ _ h1 h2 h3 h4 (sp_bo.t hb70)
        | exact cut78 _ _ _ _ _ h1 h2 h3 h4 (sp_bo.f (fun q => q hb70))
    · refine sp_iconst X (pc := 73) (v := 1) dX7_init_73 (by decide) ?_
      refine sp_goto X (pc := 74) (tgt := 78) dX7_init_74 (by decide) ?_
      first
        | exact cut78 _ _ _ _ _ h1 h2 h3 h4 (sp_bo.t hb70)
        | exact cut78 _ _ _ _ _ h1 h2 h3 h4 (sp_bo.f (fun q => q hb70))
  have cut46 : ∀ (x1 x2 x3 : Int32), sp_bo x1 (¬ r &&& 1 = 0) → sp_bo x2 (¬ r &&& 2 = 0) → sp_bo x3 (¬ r &&& 4 = 0) → w 0 0 ((m.pI 512 o x1).pI 513 o x2) 46 [(0, false, va_rf (some o)), (1, false, .int r)] [.int x3, va_rf (some o)] := by
    intro x1 x2 x3 h1 h2 h3
    refine sp_putI X (pc := 46) (c := 8) (i := 2) (q := 514) (a := o) rfl (by first | assumption | omega) (by decide) rfl rfl (Or.inr ⟨rfl, rfl, rfl⟩) h3.fit fl_Rules_18 dX7_init_46 ?_
    refine sp_aload_n X (pc := 49) (r := some o) dX7_init_49 rfl rfl ?_
    refine sp_iload_n X (pc := 50) (x := r) dX7_init_50 rfl rfl ?_
    refine sp_bipush X (pc := 51) (v := 8) dX7_init_51 (by decide) ?_
    refine sp_iand X (pc := 53) dX7_init_53 ?_
    refine sp_if_eq X (pc := 54) (tgt := 61) dX7_init_54 (by decide) (fun hb54 => ?_) (fun hb54 => ?_)
    · refine sp_iconst X (pc := 61) (v := 0) dX7_init_61 (by decide) ?_
      first
        | exact cut62 _ _ _ _ h1 h2 h3 (sp_bo.t hb54)
        | exact cut62 _ _ _ _ h1 h2 h3 (sp_bo.f (fun q => q hb54))
    · refine sp_iconst X (pc := 57) (v := 1) dX7_init_57 (by decide) ?_
      refine sp_goto X (pc := 58) (tgt := 62) dX7_init_58 (by decide) ?_
      first
        | exact cut62 _ _ _ _ h1 h2 h3 (sp_bo.t hb54)
        | exact cut62 _ _ _ _ h1 h2 h3 (sp_bo.f (fun q => q hb54))
  have cut31 : ∀ (x1 x2 : Int32), sp_bo x1 (¬ r &&& 1 = 0) → sp_bo x2 (¬ r &&& 2 = 0) → w 0 0 (m.pI 512 o x1) 31 [(0, false, va_rf (some o)), (1, false, .int r)] [.int x2, va_rf (some o)] := by
    intro x1 x2 h1 h2
    refine sp_putI X (pc := 31) (c := 8) (i := 1) (q := 513) (a := o) rfl (by first | assumption | omega) (by decide) rfl rfl (Or.inr ⟨rfl, rfl, rfl⟩) h2.fit fl_Rules_15 dX7_init_31 ?_
    refine sp_aload_n X (pc := 34) (r := some o) dX7_init_34 rfl rfl ?_
    refine sp_iload_n X (pc := 35) (x := r) dX7_init_35 rfl rfl ?_
    refine sp_iconst X (pc := 36) (v := 4) dX7_init_36 (by decide) ?_
    refine sp_iand X (pc := 37) dX7_init_37 ?_
    refine sp_if_eq X (pc := 38) (tgt := 45) dX7_init_38 (by decide) (fun hb38 => ?_) (fun hb38 => ?_)
    · refine sp_iconst X (pc := 45) (v := 0) dX7_init_45 (by decide) ?_
      first
        | exact cut46 _ _ _ h1 h2 (sp_bo.t hb38)
        | exact cut46 _ _ _ h1 h2 (sp_bo.f (fun q => q hb38))
    · refine sp_iconst X (pc := 41) (v := 1) dX7_init_41 (by decide) ?_
      refine sp_goto X (pc := 42) (tgt := 46) dX7_init_42 (by decide) ?_
      first
        | exact cut46 _ _ _ h1 h2 (sp_bo.t hb38)
        | exact cut46 _ _ _ h1 h2 (sp_bo.f (fun q => q hb38))
  have cut16 : ∀ (x1 : Int32), sp_bo x1 (¬ r &&& 1 = 0) → w 0 0 m 16 [(0, false, va_rf (some o)), (1, false, .int r)] [.int x1, va_rf (some o)] := by
    intro x1 h1
    refine sp_putI X (pc := 16) (c := 8) (i := 0) (q := 512) (a := o) rfl (by first | assumption | omega) (by decide) rfl rfl (Or.inr ⟨rfl, rfl, rfl⟩) h1.fit fl_Rules_9 dX7_init_16 ?_
    refine sp_aload_n X (pc := 19) (r := some o) dX7_init_19 rfl rfl ?_
    refine sp_iload_n X (pc := 20) (x := r) dX7_init_20 rfl rfl ?_
    refine sp_iconst X (pc := 21) (v := 2) dX7_init_21 (by decide) ?_
    refine sp_iand X (pc := 22) dX7_init_22 ?_
    refine sp_if_eq X (pc := 23) (tgt := 30) dX7_init_23 (by decide) (fun hb23 => ?_) (fun hb23 => ?_)
    · refine sp_iconst X (pc := 30) (v := 0) dX7_init_30 (by decide) ?_
      first
        | exact cut31 _ _ h1 (sp_bo.t hb23)
        | exact cut31 _ _ h1 (sp_bo.f (fun q => q hb23))
    · refine sp_iconst X (pc := 26) (v := 1) dX7_init_26 (by decide) ?_
      refine sp_goto X (pc := 27) (tgt := 31) dX7_init_27 (by decide) ?_
      first
        | exact cut31 _ _ h1 (sp_bo.t hb23)
        | exact cut31 _ _ h1 (sp_bo.f (fun q => q hb23))
  refine sp_aload_n X (pc := 0) (r := some o) dX7_init_0 rfl rfl ?_
  refine sp_objInit X (pc := 1) (a := o) rfl lk_Rules_3 oi_1 oi_2 (Nat.le_of_ble_eq_true rfl) (Nat.le_of_ble_eq_true rfl) dX7_init_1 ?_
  refine sp_aload_n X (pc := 4) (r := some o) dX7_init_4 rfl rfl ?_
  refine sp_iload_n X (pc := 5) (x := r) dX7_init_5 rfl rfl ?_
  refine sp_iconst X (pc := 6) (v := 1) dX7_init_6 (by decide) ?_
  refine sp_iand X (pc := 7) dX7_init_7 ?_
  refine sp_if_eq X (pc := 8) (tgt := 15) dX7_init_8 (by decide) (fun hb8 => ?_) (fun hb8 => ?_)
  · refine sp_iconst X (pc := 15) (v := 0) dX7_init_15 (by decide) ?_
    first
      | exact cut16 _  (sp_bo.t hb8)
      | exact cut16 _  (sp_bo.f (fun q => q hb8))
  · refine sp_iconst X (pc := 11) (v := 1) dX7_init_11 (by decide) ?_
    refine sp_goto X (pc := 12) (tgt := 16) dX7_init_12 (by decide) ?_
    first
      | exact cut16 _  (sp_bo.t hb8)
      | exact cut16 _  (sp_bo.f (fun q => q hb8))
set_option maxRecDepth 20000 in
theorem c_Rules_divides (l : Launch) (G : sp_G) (m : sp_M) {rl : Nat} {x : Int32} (ho : m.ty rl = 9) : sp_C l G M_Rules_divides 0 0 [.ref rl, .int x] m (sp_oI fun v m' => sp_bo v (sp_dv m rl x) ∧ m' = m) := by
  refine sp_enter (lv0 := [(0, false, va_rf (some rl)), (1, false, .int x)]) "SafePaths$Rules" false rfl (by decide) (fun h => by cases h) (Nat.le_of_ble_eq_true rfl) rfl ?_
  intro w X
  refine sp_iload_n X (pc := 0) (x := x) dX7_divides_0 rfl rfl ?_
  refine sp_bipush X (pc := 1) (v := 47) dX7_divides_1 (by decide) ?_
  refine sp_icmp_eq X (pc := 3) (tgt := 19) dX7_divides_3 (by decide) (fun hb3 => ?_) (fun hb3 => ?_)
  · refine sp_iconst X (pc := 19) (v := 1) dX7_divides_19 (by decide) ?_
    refine sp_goto X (pc := 20) (tgt := 24) dX7_divides_20 (by decide) ?_
    refine sp_ireturn X (pc := 24) dX7_divides_24 rfl ⟨_, rfl, ?_⟩
    first
      | exact ⟨sp_bo.t (Or.inl hb3), rfl⟩
      | exact ⟨sp_bo.t (Or.inr ⟨hb10, hb16⟩), rfl⟩
      | (refine ⟨sp_bo.f ?_, rfl⟩
         rintro (q | q)
         · exact hb3 q
         · first
             | exact q.1 hb10
             | exact hb16 q.2)
  · refine sp_aload_n X (pc := 6) (r := some rl) dX7_divides_6 rfl rfl ?_
    refine sp_getfield X (pc := 7) (c := 8) (i := 0) (t := 0) (a := rl) (v := .int (m.fI 512 rl)) rfl (by first | assumption | omega) (by decide) rfl rfl fl_Rules_9 dX7_divides_7 ?_
    refine sp_if_eq X (pc := 10) (tgt := 23) dX7_divides_10 (by decide) (fun hb10 => ?_) (fun hb10 => ?_)
    · refine sp_iconst X (pc := 23) (v := 0) dX7_divides_23 (by decide) ?_
      refine sp_ireturn X (pc := 24) dX7_divides_24 rfl ⟨_, rfl, ?_⟩
      first
        | exact ⟨sp_bo.t (Or.inl hb3), rfl⟩
        | exact ⟨sp_bo.t (Or.inr ⟨hb10, hb16⟩), rfl⟩
        | (refine ⟨sp_bo.f ?_, rfl⟩
           rintro (q | q)
           · exact hb3 q
           · first
               | exact q.1 hb10
               | exact hb16 q.2)
    · refine sp_iload_n X (pc := 13) (x := x) dX7_divides_13 rfl rfl ?_
      refine sp_bipush X (pc := 14) (v := 92) dX7_divides_14 (by decide) ?_
      refine sp_icmp_ne X (pc := 16) (tgt := 23) dX7_divides_16 (by decide) (fun hb16 => ?_) (fun hb16 => ?_)
      · refine sp_iconst X (pc := 23) (v := 0) dX7_divides_23 (by decide) ?_
        refine sp_ireturn X (pc := 24) dX7_divides_24 rfl ⟨_, rfl, ?_⟩
        first
          | exact ⟨sp_bo.t (Or.inl hb3), rfl⟩
          | exact ⟨sp_bo.t (Or.inr ⟨hb10, hb16⟩), rfl⟩
          | (refine ⟨sp_bo.f ?_, rfl⟩
             rintro (q | q)
             · exact hb3 q
             · first
                 | exact q.1 hb10
                 | exact hb16 q.2)
      · refine sp_iconst X (pc := 19) (v := 1) dX7_divides_19 (by decide) ?_
        refine sp_goto X (pc := 20) (tgt := 24) dX7_divides_20 (by decide) ?_
        refine sp_ireturn X (pc := 24) dX7_divides_24 rfl ⟨_, rfl, ?_⟩
        first
          | exact ⟨sp_bo.t (Or.inl hb3), rfl⟩
          | exact ⟨sp_bo.t (Or.inr ⟨hb10, hb16⟩), rfl⟩
          | (refine ⟨sp_bo.f ?_, rfl⟩
             rintro (q | q)
             · exact hb3 q
             · first
                 | exact q.1 hb10
                 | exact hb16 q.2)
set_option maxRecDepth 20000 in
theorem c_Rules_takeAsOne (l : Launch) (G : sp_G) (m : sp_M) {rl a b s a2 c d : Nat} (ho : m.ty rl = 9) (h : sp_nm m a b s) (h2 : sp_nm m a2 c d) : sp_C l G M_Rules_takeAsOne 0 0 [.ref rl, .ref a, .ref a2] m (sp_oI fun v m' => sp_bo v (sp_eqA m b c ∨ (¬ m.fI 513 rl = 0 ∧ sp_eqA m s d)) ∧ m' = m) := by
  refine sp_enter (lv0 := [(0, false, va_rf (some rl)), (1, false, va_rf (some a)), (2, false, va_rf (some a2))]) "SafePaths$Rules" false rfl (by decide) (fun h => by cases h) (Nat.le_of_ble_eq_true rfl) rfl ?_
  intro w X
  have hta := h.1
  have hta2 := h2.1
  refine sp_aload_n X (pc := 0) (r := some a) dX7_takeAsOne_0 rfl rfl ?_
  refine sp_aload_n X (pc := 1) (r := some a2) dX7_takeAsOne_1 rfl rfl ?_
  refine sp_callV X (pc := 2) (mc := 0) (ms := 0) (b := a) (c := 4) (r := some a) (As := [va_rf (some a2)]) (rest := []) (c_Name_isSameAs l G _ h h2) ok_Name_isSameAs rfl (by first | assumption | omega) (by decide) rfl lk_Rules_30 rfl rfl (Nat.zero_le _) (Nat.le_of_ble_eq_true rfl) (Nat.le_of_ble_eq_true rfl) (Nat.zero_le _) (Nat.zero_le _) dX7_takeAsOne_2 (sp_kI fun v2 m2 hp2 => ?_)
  obtain ⟨hp2, hp2m⟩ := hp2; replace hp2m := (hp2m).symm; subst hp2m
  refine sp_if_ne X (pc := 5) (tgt := 23) dX7_takeAsOne_5 (by decide) (fun hb5 => ?_) (fun hb5 => ?_)
  · refine sp_iconst X (pc := 23) (v := 1) dX7_takeAsOne_23 (by decide) ?_
    refine sp_goto X (pc := 24) (tgt := 28) dX7_takeAsOne_24 (by decide) ?_
    refine sp_ireturn X (pc := 28) dX7_takeAsOne_28 rfl ⟨_, rfl, ?_⟩
    first
      | exact ⟨sp_bo.t (Or.inl (hp2.ne hb5)), rfl⟩
      | exact ⟨sp_bo.t (Or.inr ⟨hb12, hp17.ne hb20⟩), rfl⟩
      | (refine ⟨sp_bo.f ?_, rfl⟩
         rintro (q | q)
         · exact hp2.eq hb5 q
         · first
             | exact q.1 hb12
             | exact hp17.eq hb20 q.2)
  · refine sp_aload_n X (pc := 8) (r := some rl) dX7_takeAsOne_8 rfl rfl ?_
    refine sp_getfield X (pc := 9) (c := 8) (i := 1) (t := 0) (a := rl) (v := .int (m.fI 513 rl)) rfl (by first | assumption | omega) (by decide) rfl rfl fl_Rules_15 dX7_takeAsOne_9 ?_
    refine sp_if_eq X (pc := 12) (tgt := 27) dX7_takeAsOne_12 (by decide) (fun hb12 => ?_) (fun hb12 => ?_)
    · refine sp_iconst X (pc := 27) (v := 0) dX7_takeAsOne_27 (by decide) ?_
      refine sp_ireturn X (pc := 28) dX7_takeAsOne_28 rfl ⟨_, rfl, ?_⟩
      first
        | exact ⟨sp_bo.t (Or.inl (hp2.ne hb5)), rfl⟩
        | exact ⟨sp_bo.t (Or.inr ⟨hb12, hp17.ne hb20⟩), rfl⟩
        | (refine ⟨sp_bo.f ?_, rfl⟩
           rintro (q | q)
           · exact hp2.eq hb5 q
           · first
               | exact q.1 hb12
               | exact hp17.eq hb20 q.2)
    · refine sp_aload_n X (pc := 15) (r := some a) dX7_takeAsOne_15 rfl rfl ?_
      refine sp_aload_n X (pc := 16) (r := some a2) dX7_takeAsOne_16 rfl rfl ?_
      refine sp_callV X (pc := 17) (mc := 0) (ms := 0) (b := a) (c := 4) (r := some a) (As := [va_rf (some a2)]) (rest := []) (c_Name_isAlike l G _ h h2) ok_Name_isAlike rfl (by first | assumption | omega) (by decide) rfl lk_Rules_36 rfl rfl (Nat.zero_le _) (Nat.le_of_ble_eq_true rfl) (Nat.le_of_ble_eq_true rfl) (Nat.zero_le _) (Nat.zero_le _) dX7_takeAsOne_17 (sp_kI fun v17 m17 hp17 => ?_)
      obtain ⟨hp17, hp17m⟩ := hp17; replace hp17m := (hp17m).symm; subst hp17m
      refine sp_if_eq X (pc := 20) (tgt := 27) dX7_takeAsOne_20 (by decide) (fun hb20 => ?_) (fun hb20 => ?_)
      · refine sp_iconst X (pc := 27) (v := 0) dX7_takeAsOne_27 (by decide) ?_
        refine sp_ireturn X (pc := 28) dX7_takeAsOne_28 rfl ⟨_, rfl, ?_⟩
        first
          | exact ⟨sp_bo.t (Or.inl (hp2.ne hb5)), rfl⟩
          | exact ⟨sp_bo.t (Or.inr ⟨hb12, hp17.ne hb20⟩), rfl⟩
          | (refine ⟨sp_bo.f ?_, rfl⟩
             rintro (q | q)
             · exact hp2.eq hb5 q
             · first
                 | exact q.1 hb12
                 | exact hp17.eq hb20 q.2)
      · refine sp_iconst X (pc := 23) (v := 1) dX7_takeAsOne_23 (by decide) ?_
        refine sp_goto X (pc := 24) (tgt := 28) dX7_takeAsOne_24 (by decide) ?_
        refine sp_ireturn X (pc := 28) dX7_takeAsOne_28 rfl ⟨_, rfl, ?_⟩
        first
          | exact ⟨sp_bo.t (Or.inl (hp2.ne hb5)), rfl⟩
          | exact ⟨sp_bo.t (Or.inr ⟨hb12, hp17.ne hb20⟩), rfl⟩
          | (refine ⟨sp_bo.f ?_, rfl⟩
             rintro (q | q)
             · exact hp2.eq hb5 q
             · first
                 | exact q.1 hb12
                 | exact hp17.eq hb20 q.2)
set_option maxRecDepth 20000 in
theorem c_Draft_init (l : Launch) (G : sp_G) (m : sp_M) {o : Nat} (ho : m.ty o = 3) : sp_C l G M_Draft_init 1 160 [.ref o] m (sp_oV fun m' => m' = ((m.newA 20 160).pR 128 o (some m.nx)).pI 129 o 0) := by
  refine sp_enter (lv0 := [(0, false, va_rf (some o))]) "SafePaths$Draft" true rfl (by decide) (fun _ => rfl) (Nat.le_of_ble_eq_true rfl) rfl ?_
  intro w X
  refine sp_fresh X (fun hwf hbs => ?_)
  have hon : o < m.nx := hwf o (by omega)
  refine sp_aload_n X (pc := 0) (r := some o) dX1_init_0 rfl rfl ?_
  refine sp_objInit X (pc := 1) (a := o) rfl lk_Draft_3 oi_1 oi_2 (Nat.le_of_ble_eq_true rfl) (Nat.le_of_ble_eq_true rfl) dX1_init_1 ?_
  refine sp_aload_n X (pc := 4) (r := some o) dX1_init_4 rfl rfl ?_
  refine sp_sipush X (pc := 5) (v := 160) dX1_init_5 (by decide) ?_
  refine sp_newarrI X (pc := 8) (N := 160) (by decide) (by decide +kernel) (by decide) (by decide) (by decide) dX1_init_8 ?_
  refine sp_putR X (pc := 10) (c := 2) (i := 0) (q := 128) (a := o) rfl (by rw [sp_newA_ty, if_neg (by omega)]; exact ho) (by decide) rfl rfl (Or.inr ⟨rfl, rfl, rfl⟩)  fl_Draft_9 dX1_init_10 ?_
  refine sp_aload_n X (pc := 13) (r := some o) dX1_init_13 rfl rfl ?_
  refine sp_iconst X (pc := 14) (v := 0) dX1_init_14 (by decide) ?_
  refine sp_putI X (pc := 15) (c := 2) (i := 1) (q := 129) (a := o) rfl (by show (m.newA 20 160).ty o = _; rw [sp_newA_ty, if_neg (by omega)]; exact ho) (by decide) rfl rfl (Or.inl rfl) ⟨rfl, rfl⟩ fl_Draft_15 dX1_init_15 ?_
  refine sp_return X (pc := 18) dX1_init_18 ⟨rfl, ?_⟩
  first | exact ⟨rfl, rfl⟩ | rfl | (refine ⟨?_, rfl⟩; first | (rw [if_pos (by assumption)]; done) | (rw [if_neg (by assumption)]; done) | (split <;> simp_all; done))
set_option maxRecDepth 20000 in
theorem c_Draft_append (l : Launch) (G : sp_G) (m : sp_M) {d db n : Nat} (h : sp_dr m d db n) {x : Int32} : sp_C l G M_Draft_append 0 0 [.ref d, .int x] m (sp_oI fun v m' => ((n = 160 ∨ x < 0 ∨ 255 < x) ∧ v = -5 ∧ m' = m) ∨ (¬ (n = 160 ∨ x < 0 ∨ 255 < x) ∧ v = nI (n + 1) ∧ m' = (m.sI db n x).pI 129 d (nI (n + 1)))) := by
  refine sp_enter (lv0 := [(0, false, va_rf (some d)), (1, false, .int x)]) "SafePaths$Draft" false rfl (by decide) (fun h => by cases h) (Nat.le_of_ble_eq_true rfl) rfl ?_
  intro w X
  obtain ⟨hd, hdb, htb, hlb, hn, hn6⟩ := h
  refine sp_aload_n X (pc := 0) (r := some d) dX1_append_0 rfl rfl ?_
  refine sp_getfield X (pc := 1) (c := 2) (i := 1) (t := 0) (a := d) (v := .int (nI n)) rfl (by first | assumption | omega) (by decide) rfl (congrArg Value.int hn) fl_Draft_15 dX1_append_1 ?_
  refine sp_aload_n X (pc := 4) (r := some d) dX1_append_4 rfl rfl ?_
  refine sp_getfield X (pc := 5) (c := 2) (i := 0) (t := 2) (a := d) (v := va_rf (some db)) rfl (by first | assumption | omega) (by decide) rfl (congrArg va_rf hdb) fl_Draft_9 dX1_append_5 ?_
  refine sp_arraylength X (pc := 8) (a := db) rfl (by omega) dX1_append_8 ?_
  rw [show (Int32.ofNat (m.ln db)) = nI 160 from (by rw [hlb]; rfl)]
  refine sp_icmp_ge X (pc := 9) (tgt := 23) dX1_append_9 (by decide) (fun hb9 => ?_) (fun hb9 => ?_)
  · have hc : n = 160 := by have := sp_nge hb9 (by omega) (by omega); omega
    refine sp_bipush X (pc := 23) (v := (-5)) dX1_append_23 (by decide) ?_
    refine sp_ireturn X (pc := 25) dX1_append_25 rfl ⟨_, rfl, ?_⟩
    first
      | exact Or.inl ⟨Or.inl hc, rfl, rfl⟩
      | exact Or.inl ⟨Or.inr (Or.inl hb13), rfl, rfl⟩
      | exact Or.inl ⟨Or.inr (Or.inr (Int32.not_le.mp hb20)), rfl, rfl⟩
  · have hc : n < 160 := sp_nlt hb9 (by omega)
    refine sp_iload_n X (pc := 12) (x := x) dX1_append_12 rfl rfl ?_
    refine sp_if_lt X (pc := 13) (tgt := 23) dX1_append_13 (by decide) (fun hb13 => ?_) (fun hb13 => ?_)
    · refine sp_bipush X (pc := 23) (v := (-5)) dX1_append_23 (by decide) ?_
      refine sp_ireturn X (pc := 25) dX1_append_25 rfl ⟨_, rfl, ?_⟩
      first
        | exact Or.inl ⟨Or.inl hc, rfl, rfl⟩
        | exact Or.inl ⟨Or.inr (Or.inl hb13), rfl, rfl⟩
        | exact Or.inl ⟨Or.inr (Or.inr (Int32.not_le.mp hb20)), rfl, rfl⟩
    · refine sp_iload_n X (pc := 16) (x := x) dX1_append_16 rfl rfl ?_
      refine sp_sipush X (pc := 17) (v := 255) dX1_append_17 (by decide) ?_
      refine sp_icmp_le X (pc := 20) (tgt := 26) dX1_append_20 (by decide) (fun hb20 => ?_) (fun hb20 => ?_)
      · refine sp_aload_n X (pc := 26) (r := some d) dX1_append_26 rfl rfl ?_
        refine sp_getfield X (pc := 27) (c := 2) (i := 0) (t := 2) (a := d) (v := va_rf (some db)) rfl (by first | assumption | omega) (by decide) rfl (congrArg va_rf hdb) fl_Draft_9 dX1_append_27 ?_
        refine sp_aload_n X (pc := 30) (r := some d) dX1_append_30 rfl rfl ?_
        refine sp_getfield X (pc := 31) (c := 2) (i := 1) (t := 0) (a := d) (v := .int (nI n)) rfl (by first | assumption | omega) (by decide) rfl (congrArg Value.int hn) fl_Draft_15 dX1_append_31 ?_
        refine sp_iload_n X (pc := 34) (x := x) dX1_append_34 rfl rfl ?_
        refine sp_iastore X (pc := 35) (a := db) rfl (by first | assumption | omega) (by rw [hlb]; exact vp_in_nI hc (by omega))  dX1_append_35 ?_
        rw [show (nI n).toNatClampNeg = n from nI_clamp (by omega)]
        refine sp_aload_n X (pc := 36) (r := some d) dX1_append_36 rfl rfl ?_
        refine sp_dup X (pc := 37) dX1_append_37 (sp_cat_rf _) ?_
        refine sp_getfield X (pc := 38) (c := 2) (i := 1) (t := 0) (a := d) (v := .int (nI n)) rfl (by first | assumption | omega) (by decide) rfl (congrArg Value.int hn) fl_Draft_15 dX1_append_38 ?_
        refine sp_iconst X (pc := 41) (v := 1) dX1_append_41 (by decide) ?_
        refine sp_iadd X (pc := 42) dX1_append_42 ?_
        rw [show ((nI n) + 1) = nI (n + 1) from (nI_1 n)]
        refine sp_putI X (pc := 43) (c := 2) (i := 1) (q := 129) (a := d) rfl (by first | assumption | omega) (by decide) rfl rfl (Or.inl rfl) ⟨rfl, rfl⟩ fl_Draft_15 dX1_append_43 ?_
        refine sp_aload_n X (pc := 46) (r := some d) dX1_append_46 rfl rfl ?_
        refine sp_getfield X (pc := 47) (c := 2) (i := 1) (t := 0) (a := d) (v := .int (nI (n + 1))) rfl (by first | assumption | omega) (by decide) rfl (by simp [sp_fv, sp_pI_fI]) fl_Draft_15 dX1_append_47 ?_
        refine sp_ireturn X (pc := 50) dX1_append_50 rfl ⟨_, rfl, ?_⟩
        refine Or.inr ⟨?_, rfl, rfl⟩
        rintro (q | q | q)
        · omega
        · exact hb13 q
        · exact absurd hb20 (Int32.not_le.mpr q)
      · refine sp_bipush X (pc := 23) (v := (-5)) dX1_append_23 (by decide) ?_
        refine sp_ireturn X (pc := 25) dX1_append_25 rfl ⟨_, rfl, ?_⟩
        first
          | exact Or.inl ⟨Or.inl hc, rfl, rfl⟩
          | exact Or.inl ⟨Or.inr (Or.inl hb13), rfl, rfl⟩
          | exact Or.inl ⟨Or.inr (Or.inr (Int32.not_le.mp hb20)), rfl, rfl⟩
set_option maxRecDepth 20000 in
theorem c_Draft_clear (l : Launch) (G : sp_G) (m : sp_M) {d : Nat} (hd : m.ty d = 3) : sp_C l G M_Draft_clear 0 0 [.ref d] m (sp_oV fun m' => m' = m.pI 129 d 0) := by
  refine sp_enter (lv0 := [(0, false, va_rf (some d))]) "SafePaths$Draft" false rfl (by decide) (fun h => by cases h) (Nat.le_of_ble_eq_true rfl) rfl ?_
  intro w X
  refine sp_aload_n X (pc := 0) (r := some d) dX1_clear_0 rfl rfl ?_
  refine sp_iconst X (pc := 1) (v := 0) dX1_clear_1 (by decide) ?_
  refine sp_putI X (pc := 2) (c := 2) (i := 1) (q := 129) (a := d) rfl (by first | assumption | omega) (by decide) rfl rfl (Or.inl rfl) ⟨rfl, rfl⟩ fl_Draft_15 dX1_clear_2 ?_
  refine sp_return X (pc := 5) dX1_clear_5 ⟨rfl, ?_⟩
  first | exact ⟨rfl, rfl⟩ | rfl | (refine ⟨?_, rfl⟩; first | (rw [if_pos (by assumption)]; done) | (rw [if_neg (by assumption)]; done) | (split <;> simp_all; done))
set_option maxRecDepth 20000 in
theorem c_Draft_length (l : Launch) (G : sp_G) (m : sp_M) {d db n : Nat} (h : sp_dr m d db n) : sp_C l G M_Draft_length 0 0 [.ref d] m (sp_oI fun v m' => v = nI n ∧ m' = m) := by
  refine sp_enter (lv0 := [(0, false, va_rf (some d))]) "SafePaths$Draft" false rfl (by decide) (fun h => by cases h) (Nat.le_of_ble_eq_true rfl) rfl ?_
  intro w X
  obtain ⟨hd, hdb, htb, hlb, hn, hn6⟩ := h
  refine sp_aload_n X (pc := 0) (r := some d) dX1_length_0 rfl rfl ?_
  refine sp_getfield X (pc := 1) (c := 2) (i := 1) (t := 0) (a := d) (v := .int (nI n)) rfl (by first | assumption | omega) (by decide) rfl (congrArg Value.int hn) fl_Draft_15 dX1_length_1 ?_
  refine sp_ireturn X (pc := 4) dX1_length_4 rfl ⟨_, rfl, ?_⟩
  first | exact ⟨rfl, rfl⟩ | rfl | (refine ⟨?_, rfl⟩; first | (rw [if_pos (by assumption)]; done) | (rw [if_neg (by assumption)]; done) | (split <;> simp_all; done))
set_option maxRecDepth 20000 in
theorem c_Draft_beginsWithDivider (l : Launch) (G : sp_G) (m : sp_M) {d db n : Nat} (h : sp_dr m d db n) {rl : Nat} (hrl : m.ty rl = 9) : sp_C l G M_Draft_beginsWithDivider 0 0 [.ref d, .ref rl] m (sp_oI fun v m' => sp_bo v (0 < n ∧ sp_dv m rl (m.aI db 0)) ∧ m' = m) := by
  refine sp_enter (lv0 := [(0, false, va_rf (some d)), (1, false, va_rf (some rl))]) "SafePaths$Draft" false rfl (by decide) (fun h => by cases h) (Nat.le_of_ble_eq_true rfl) rfl ?_
  intro w X
  obtain ⟨hd, hdb, htb, hlb, hn, hn6⟩ := h
  refine sp_aload_n X (pc := 0) (r := some d) dX1_beginsWithDivider_0 rfl rfl ?_
  refine sp_getfield X (pc := 1) (c := 2) (i := 1) (t := 0) (a := d) (v := .int (nI n)) rfl (by first | assumption | omega) (by decide) rfl (congrArg Value.int hn) fl_Draft_15 dX1_beginsWithDivider_1 ?_
  refine sp_if_le X (pc := 4) (tgt := 24) dX1_beginsWithDivider_4 (by decide) (fun hb4 => ?_) (fun hb4 => ?_)
  · have hc : n = 0 := by rcases Nat.eq_zero_or_pos n with q | q; exact q; exact absurd hb4 (nI_nle q (by omega))
    refine sp_iconst X (pc := 24) (v := 0) dX1_beginsWithDivider_24 (by decide) ?_
    refine sp_ireturn X (pc := 25) dX1_beginsWithDivider_25 rfl ⟨_, rfl, ?_⟩
    first
      | exact ⟨sp_bo.t ⟨hc, hp14.ne hb17⟩, rfl⟩
      | exact ⟨sp_bo.f (fun q => hp14.eq hb17 q.2), rfl⟩
      | exact ⟨sp_bo.f (fun q => by omega), rfl⟩
  · have hc : 0 < n := by rcases Nat.eq_zero_or_pos n with q | q; exact absurd (show nI n ≤ 0 by rw [q]; decide) hb4; exact q
    refine sp_aload_n X (pc := 7) (r := some rl) dX1_beginsWithDivider_7 rfl rfl ?_
    refine sp_aload_n X (pc := 8) (r := some d) dX1_beginsWithDivider_8 rfl rfl ?_
    refine sp_getfield X (pc := 9) (c := 2) (i := 0) (t := 2) (a := d) (v := va_rf (some db)) rfl (by first | assumption | omega) (by decide) rfl (congrArg va_rf hdb) fl_Draft_9 dX1_beginsWithDivider_9 ?_
    refine sp_iconst X (pc := 12) (v := 0) dX1_beginsWithDivider_12 (by decide) ?_
    refine sp_iaload X (pc := 13) (a := db) rfl (by first | exact Or.inl (by assumption) | exact Or.inr (by assumption) | assumption) (by rw [hlb]; exact vp_in_nI (n := 0) (by omega) (by omega)) dX1_beginsWithDivider_13 ?_
    rw [show (m.aI db (Int32.toNatClampNeg 0)) = m.aI db 0 from rfl]
    refine sp_callV X (pc := 14) (mc := 0) (ms := 0) (b := rl) (c := 8) (r := some rl) (As := [.int (m.aI db 0)]) (rest := []) (c_Rules_divides l G _ hrl) ok_Rules_divides rfl (by first | assumption | omega) (by decide) rfl lk_Draft_19 rfl rfl (Nat.zero_le _) (Nat.le_of_ble_eq_true rfl) (Nat.le_of_ble_eq_true rfl) (Nat.zero_le _) (Nat.zero_le _) dX1_beginsWithDivider_14 (sp_kI fun v14 m14 hp14 => ?_)
    obtain ⟨hp14, hp14m⟩ := hp14; replace hp14m := (hp14m).symm; subst hp14m
    refine sp_if_eq X (pc := 17) (tgt := 24) dX1_beginsWithDivider_17 (by decide) (fun hb17 => ?_) (fun hb17 => ?_)
    · refine sp_iconst X (pc := 24) (v := 0) dX1_beginsWithDivider_24 (by decide) ?_
      refine sp_ireturn X (pc := 25) dX1_beginsWithDivider_25 rfl ⟨_, rfl, ?_⟩
      first
        | exact ⟨sp_bo.t ⟨hc, hp14.ne hb17⟩, rfl⟩
        | exact ⟨sp_bo.f (fun q => hp14.eq hb17 q.2), rfl⟩
        | exact ⟨sp_bo.f (fun q => by omega), rfl⟩
    · refine sp_iconst X (pc := 20) (v := 1) dX1_beginsWithDivider_20 (by decide) ?_
      refine sp_goto X (pc := 21) (tgt := 25) dX1_beginsWithDivider_21 (by decide) ?_
      refine sp_ireturn X (pc := 25) dX1_beginsWithDivider_25 rfl ⟨_, rfl, ?_⟩
      first
        | exact ⟨sp_bo.t ⟨hc, hp14.ne hb17⟩, rfl⟩
        | exact ⟨sp_bo.f (fun q => hp14.eq hb17 q.2), rfl⟩
        | exact ⟨sp_bo.f (fun q => by omega), rfl⟩
set_option maxRecDepth 20000 in
theorem c_Draft_beginsWithDrive (l : Launch) (G : sp_G) (m : sp_M) {d db n : Nat} (h : sp_dr m d db n) : sp_C l G M_Draft_beginsWithDrive 0 0 [.ref d] m (sp_oI fun v m' => sp_bo v (2 ≤ n ∧ m.aI db 1 = 58 ∧ sp_ltr (m.aI db 0)) ∧ m' = m) := by
  refine sp_enter (lv0 := [(0, false, va_rf (some d))]) "SafePaths$Draft" false rfl (by decide) (fun h => by cases h) (Nat.le_of_ble_eq_true rfl) rfl ?_
  intro w X
  obtain ⟨hd, hdb, htb, hlb, hn, hn6⟩ := h
  refine sp_aload_n X (pc := 0) (r := some d) dX1_beginsWithDrive_0 rfl rfl ?_
  refine sp_getfield X (pc := 1) (c := 2) (i := 1) (t := 0) (a := d) (v := .int (nI n)) rfl (by first | assumption | omega) (by decide) rfl (congrArg Value.int hn) fl_Draft_15 dX1_beginsWithDrive_1 ?_
  refine sp_iconst X (pc := 4) (v := 2) dX1_beginsWithDrive_4 (by decide) ?_
  refine sp_icmp_lt X (pc := 5) (tgt := 19) dX1_beginsWithDrive_5 (by decide) (fun hb5 => ?_) (fun hb5 => ?_)
  · have hc : ¬ 2 ≤ n := fun q => absurd hb5 (nI_nlt (b := 2) q (by omega))
    refine sp_iconst X (pc := 19) (v := 0) dX1_beginsWithDrive_19 (by decide) ?_
    refine sp_ireturn X (pc := 20) dX1_beginsWithDrive_20 rfl ⟨_, rfl, ?_⟩
    first
      | exact ⟨sp_bo.f (fun q => hc q.1), rfl⟩
      | exact ⟨sp_bo.f (fun q => hb16 q.2.1), rfl⟩
  · have hc : 2 ≤ n := by rcases Nat.lt_or_ge n 2 with q | q; exact absurd (nI_lt (b := 2) q (by omega)) hb5; exact q
    refine sp_aload_n X (pc := 8) (r := some d) dX1_beginsWithDrive_8 rfl rfl ?_
    refine sp_getfield X (pc := 9) (c := 2) (i := 0) (t := 2) (a := d) (v := va_rf (some db)) rfl (by first | assumption | omega) (by decide) rfl (congrArg va_rf hdb) fl_Draft_9 dX1_beginsWithDrive_9 ?_
    refine sp_iconst X (pc := 12) (v := 1) dX1_beginsWithDrive_12 (by decide) ?_
    refine sp_iaload X (pc := 13) (a := db) rfl (by first | exact Or.inl (by assumption) | exact Or.inr (by assumption) | assumption) (by rw [hlb]; exact vp_in_nI (n := 1) (by omega) (by omega)) dX1_beginsWithDrive_13 ?_
    rw [show (m.aI db (Int32.toNatClampNeg 1)) = m.aI db 1 from rfl]
    refine sp_bipush X (pc := 14) (v := 58) dX1_beginsWithDrive_14 (by decide) ?_
    refine sp_icmp_eq X (pc := 16) (tgt := 21) dX1_beginsWithDrive_16 (by decide) (fun hb16 => ?_) (fun hb16 => ?_)
    · refine sp_aload_n X (pc := 21) (r := some d) dX1_beginsWithDrive_21 rfl rfl ?_
      refine sp_getfield X (pc := 22) (c := 2) (i := 0) (t := 2) (a := d) (v := va_rf (some db)) rfl (by first | assumption | omega) (by decide) rfl (congrArg va_rf hdb) fl_Draft_9 dX1_beginsWithDrive_22 ?_
      refine sp_iconst X (pc := 25) (v := 0) dX1_beginsWithDrive_25 (by decide) ?_
      refine sp_iaload X (pc := 26) (a := db) rfl (by first | exact Or.inl (by assumption) | exact Or.inr (by assumption) | assumption) (by rw [hlb]; exact vp_in_nI (n := 0) (by omega) (by omega)) dX1_beginsWithDrive_26 ?_
      rw [show (m.aI db (Int32.toNatClampNeg 0)) = m.aI db 0 from rfl]
      refine sp_istore_n X (pc := 27) (lv' := [(1, false, .int (m.aI db 0)), (0, false, va_rf (some d))]) dX1_beginsWithDrive_27 rfl (by decide) rfl ?_
      refine sp_iload_n X (pc := 28) (x := m.aI db 0) dX1_beginsWithDrive_28 rfl rfl ?_
      refine sp_bipush X (pc := 29) (v := 65) dX1_beginsWithDrive_29 (by decide) ?_
      refine sp_icmp_lt X (pc := 31) (tgt := 40) dX1_beginsWithDrive_31 (by decide) (fun hb31 => ?_) (fun hb31 => ?_)
      · refine sp_iload_n X (pc := 40) (x := m.aI db 0) dX1_beginsWithDrive_40 rfl rfl ?_
        refine sp_bipush X (pc := 41) (v := 97) dX1_beginsWithDrive_41 (by decide) ?_
        refine sp_icmp_lt X (pc := 43) (tgt := 56) dX1_beginsWithDrive_43 (by decide) (fun hb43 => ?_) (fun hb43 => ?_)
        · refine sp_iconst X (pc := 56) (v := 0) dX1_beginsWithDrive_56 (by decide) ?_
          refine sp_ireturn X (pc := 57) dX1_beginsWithDrive_57 rfl ⟨_, rfl, ?_⟩
          first
            | exact ⟨sp_bo.t ⟨hc, hb16, Or.inl ⟨Int32.not_lt.mp hb31, hb37⟩⟩, rfl⟩
            | exact ⟨sp_bo.t ⟨hc, hb16, Or.inr ⟨Int32.not_lt.mp hb43, Int32.not_lt.mp hb49⟩⟩, rfl⟩
            | (refine ⟨sp_bo.f ?_, rfl⟩
               rintro ⟨-, -, q | q⟩
               · first
                   | exact absurd hb31 (Int32.not_lt.mpr q.1)
                   | exact hb37 q.2
               · first
                   | exact absurd hb43 (Int32.not_lt.mpr q.1)
                   | exact absurd hb49 (Int32.not_lt.mpr q.2))
        · refine sp_iload_n X (pc := 46) (x := m.aI db 0) dX1_beginsWithDrive_46 rfl rfl ?_
          refine sp_bipush X (pc := 47) (v := 122) dX1_beginsWithDrive_47 (by decide) ?_
          refine sp_icmp_gt X (pc := 49) (tgt := 56) dX1_beginsWithDrive_49 (by decide) (fun hb49 => ?_) (fun hb49 => ?_)
          · refine sp_iconst X (pc := 56) (v := 0) dX1_beginsWithDrive_56 (by decide) ?_
            refine sp_ireturn X (pc := 57) dX1_beginsWithDrive_57 rfl ⟨_, rfl, ?_⟩
            first
              | exact ⟨sp_bo.t ⟨hc, hb16, Or.inl ⟨Int32.not_lt.mp hb31, hb37⟩⟩, rfl⟩
              | exact ⟨sp_bo.t ⟨hc, hb16, Or.inr ⟨Int32.not_lt.mp hb43, Int32.not_lt.mp hb49⟩⟩, rfl⟩
              | (refine ⟨sp_bo.f ?_, rfl⟩
                 rintro ⟨-, -, q | q⟩
                 · first
                     | exact absurd hb31 (Int32.not_lt.mpr q.1)
                     | exact hb37 q.2
                 · first
                     | exact absurd hb43 (Int32.not_lt.mpr q.1)
                     | exact absurd hb49 (Int32.not_lt.mpr q.2))
          · refine sp_iconst X (pc := 52) (v := 1) dX1_beginsWithDrive_52 (by decide) ?_
            refine sp_goto X (pc := 53) (tgt := 57) dX1_beginsWithDrive_53 (by decide) ?_
            refine sp_ireturn X (pc := 57) dX1_beginsWithDrive_57 rfl ⟨_, rfl, ?_⟩
            first
              | exact ⟨sp_bo.t ⟨hc, hb16, Or.inl ⟨Int32.not_lt.mp hb31, hb37⟩⟩, rfl⟩
              | exact ⟨sp_bo.t ⟨hc, hb16, Or.inr ⟨Int32.not_lt.mp hb43, Int32.not_lt.mp hb49⟩⟩, rfl⟩
              | (refine ⟨sp_bo.f ?_, rfl⟩
                 rintro ⟨-, -, q | q⟩
                 · first
                     | exact absurd hb31 (Int32.not_lt.mpr q.1)
                     | exact hb37 q.2
                 · first
                     | exact absurd hb43 (Int32.not_lt.mpr q.1)
                     | exact absurd hb49 (Int32.not_lt.mpr q.2))
      · refine sp_iload_n X (pc := 34) (x := m.aI db 0) dX1_beginsWithDrive_34 rfl rfl ?_
        refine sp_bipush X (pc := 35) (v := 90) dX1_beginsWithDrive_35 (by decide) ?_
        refine sp_icmp_le X (pc := 37) (tgt := 52) dX1_beginsWithDrive_37 (by decide) (fun hb37 => ?_) (fun hb37 => ?_)
        · refine sp_iconst X (pc := 52) (v := 1) dX1_beginsWithDrive_52 (by decide) ?_
          refine sp_goto X (pc := 53) (tgt := 57) dX1_beginsWithDrive_53 (by decide) ?_
          refine sp_ireturn X (pc := 57) dX1_beginsWithDrive_57 rfl ⟨_, rfl, ?_⟩
          first
            | exact ⟨sp_bo.t ⟨hc, hb16, Or.inl ⟨Int32.not_lt.mp hb31, hb37⟩⟩, rfl⟩
            | exact ⟨sp_bo.t ⟨hc, hb16, Or.inr ⟨Int32.not_lt.mp hb43, Int32.not_lt.mp hb49⟩⟩, rfl⟩
            | (refine ⟨sp_bo.f ?_, rfl⟩
               rintro ⟨-, -, q | q⟩
               · first
                   | exact absurd hb31 (Int32.not_lt.mpr q.1)
                   | exact hb37 q.2
               · first
                   | exact absurd hb43 (Int32.not_lt.mpr q.1)
                   | exact absurd hb49 (Int32.not_lt.mpr q.2))
        · refine sp_iload_n X (pc := 40) (x := m.aI db 0) dX1_beginsWithDrive_40 rfl rfl ?_
          refine sp_bipush X (pc := 41) (v := 97) dX1_beginsWithDrive_41 (by decide) ?_
          refine sp_icmp_lt X (pc := 43) (tgt := 56) dX1_beginsWithDrive_43 (by decide) (fun hb43 => ?_) (fun hb43 => ?_)
          · refine sp_iconst X (pc := 56) (v := 0) dX1_beginsWithDrive_56 (by decide) ?_
            refine sp_ireturn X (pc := 57) dX1_beginsWithDrive_57 rfl ⟨_, rfl, ?_⟩
            first
              | exact ⟨sp_bo.t ⟨hc, hb16, Or.inl ⟨Int32.not_lt.mp hb31, hb37⟩⟩, rfl⟩
              | exact ⟨sp_bo.t ⟨hc, hb16, Or.inr ⟨Int32.not_lt.mp hb43, Int32.not_lt.mp hb49⟩⟩, rfl⟩
              | (refine ⟨sp_bo.f ?_, rfl⟩
                 rintro ⟨-, -, q | q⟩
                 · first
                     | exact absurd hb31 (Int32.not_lt.mpr q.1)
                     | exact hb37 q.2
                 · first
                     | exact absurd hb43 (Int32.not_lt.mpr q.1)
                     | exact absurd hb49 (Int32.not_lt.mpr q.2))
          · refine sp_iload_n X (pc := 46) (x := m.aI db 0) dX1_beginsWithDrive_46 rfl rfl ?_
            refine sp_bipush X (pc := 47) (v := 122) dX1_beginsWithDrive_47 (by decide) ?_
            refine sp_icmp_gt X (pc := 49) (tgt := 56) dX1_beginsWithDrive_49 (by decide) (fun hb49 => ?_) (fun hb49 => ?_)
            · refine sp_iconst X (pc := 56) (v := 0) dX1_beginsWithDrive_56 (by decide) ?_
              refine sp_ireturn X (pc := 57) dX1_beginsWithDrive_57 rfl ⟨_, rfl, ?_⟩
              first
                | exact ⟨sp_bo.t ⟨hc, hb16, Or.inl ⟨Int32.not_lt.mp hb31, hb37⟩⟩, rfl⟩
                | exact ⟨sp_bo.t ⟨hc, hb16, Or.inr ⟨Int32.not_lt.mp hb43, Int32.not_lt.mp hb49⟩⟩, rfl⟩
                | (refine ⟨sp_bo.f ?_, rfl⟩
                   rintro ⟨-, -, q | q⟩
                   · first
                       | exact absurd hb31 (Int32.not_lt.mpr q.1)
                       | exact hb37 q.2
                   · first
                       | exact absurd hb43 (Int32.not_lt.mpr q.1)
                       | exact absurd hb49 (Int32.not_lt.mpr q.2))
            · refine sp_iconst X (pc := 52) (v := 1) dX1_beginsWithDrive_52 (by decide) ?_
              refine sp_goto X (pc := 53) (tgt := 57) dX1_beginsWithDrive_53 (by decide) ?_
              refine sp_ireturn X (pc := 57) dX1_beginsWithDrive_57 rfl ⟨_, rfl, ?_⟩
              first
                | exact ⟨sp_bo.t ⟨hc, hb16, Or.inl ⟨Int32.not_lt.mp hb31, hb37⟩⟩, rfl⟩
                | exact ⟨sp_bo.t ⟨hc, hb16, Or.inr ⟨Int32.not_lt.mp hb43, Int32.not_lt.mp hb49⟩⟩, rfl⟩
                | (refine ⟨sp_bo.f ?_, rfl⟩
                   rintro ⟨-, -, q | q⟩
                   · first
                       | exact absurd hb31 (Int32.not_lt.mpr q.1)
                       | exact hb37 q.2
                   · first
                       | exact absurd hb43 (Int32.not_lt.mpr q.1)
                       | exact absurd hb49 (Int32.not_lt.mpr q.2))
    · refine sp_iconst X (pc := 19) (v := 0) dX1_beginsWithDrive_19 (by decide) ?_
      refine sp_ireturn X (pc := 20) dX1_beginsWithDrive_20 rfl ⟨_, rfl, ?_⟩
      first
        | exact ⟨sp_bo.f (fun q => hc q.1), rfl⟩
        | exact ⟨sp_bo.f (fun q => hb16 q.2.1), rfl⟩
