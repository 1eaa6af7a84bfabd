
theorem sp_cat_i (x : Int32) : (Value.int x).category = 1 := rfl
theorem sp_cat_l (x : Int64) : (Value.long x).category = 2 := rfl
theorem sp_cat_ref (o : Nat) : (Value.ref o).category = 1 := rfl
theorem sp_rf_some (o : Nat) : va_rf (some o) = .ref o := rfl
theorem sp_beq12 : Nat.beq 1 2 = false := rfl
theorem sp_beq22 : Nat.beq 2 2 = true := rfl
section SPP
variable {l : Launch} {G : sp_G} {own : String} {cc : ByteArray} {nL : Nat} {init : Bool} {ret : Option FieldType} {R : Room} {Qo : Option (Option Value → sp_M → Prop)} {w : sp_T}
variable {k n : Nat} {m : sp_M} {pc : Nat} {lv : sp_L} {st : List Value}
theorem sp_pick (X : sp_X l G own cc nL init ret R Qo w) (is : List Nat) {lv' : sp_L} (hs : is.filterMap (fun i => lv[i]?) = lv') (kk : w k n m pc lv' st) : w k n m pc lv st := by
  obtain ⟨p, e, s, mm, args, below, meth, cd, Q, hx, hb, hml, hown, hlocks, hret, hini, hK, hQ, rfl⟩ := X
  intro hk0 hn0 H locs ls hH hL hl
  refine kk hk0 hn0 H locs ls hH hL (sp_lv_sub hl fun q hq => ?_)
  subst hs
  obtain ⟨i, -, hi⟩ := List.mem_filterMap.mp hq
  exact List.mem_of_getElem? hi
theorem sp_enterF {Y : sp_Me} {mc ms : Nat} {av : List Value} {post : Option Value → sp_M → Prop} {lv0 : sp_L} (own : String) (init : Bool) (hown : Y.1.cls = own) (hpl : plainFor Y.1 = true) (hi : init = true → Y.1.name = "<init>") (hav : (lg_sl av).length ≤ Y.2.2.1) (hlv : sp_args 0 av = lv0) (body : ∀ w : sp_T, sp_X l G own Y.2.1 Y.2.2.1 init Y.2.2.2.1 ({ frames := Y.2.2.2.2.1, cells := mc, slots := ms, locals := Y.2.2.2.2.2 }) (some post) w → w mc ms m 0 lv0 []) : sp_C l G Y mc ms av m post := by
  refine va_MetF (cc := Y.2.1) (maxL := Y.2.2.1) (ret := Y.2.2.2.1) hpl rfl ?_
  intro p e s mm args below meth c s₁ B hml hv
  obtain ⟨rfl, hK, hH⟩ := hv
  subst hown
  have hX : sp_X l G Y.1.cls Y.2.1 Y.2.2.1 init Y.2.2.2.1 ({ frames := Y.2.2.2.2.1, cells := mc, slots := ms, locals := Y.2.2.2.2.2 }) (some post) (sp_w G p l e ({ frames := Y.2.2.2.2.1, cells := mc, slots := ms, locals := Y.2.2.2.2.2 }) s mm av.toArray below meth c (MQ below (sp_Q G post) av.toArray s mc ms (sp_A G)) Y.2.2.1) :=
    ⟨p, e, s, mm, av.toArray, below, meth, c, _, B.exec, B.bytes, hml, findClass_of_methodNamed B.named, B.notSynchronized, B.returns, fun h => ((name_of_methodNamed B.named B.method).1).trans (hi h), hK, fun post' h => by cases h; rfl, rfl⟩
  have hw := body _ hX (Nat.le_refl _) (Nat.le_refl _) s.heap [] ((lg_sl av ++ List.replicate (Y.2.2.1 - (lg_sl av).length) Slot.unset).toArray) hH (fun q hq => by cases hq) (by
    subst hlv
    have := lv_entry av (n := Y.2.2.1) hav
    rw [← sp_args_map av 0] at this
    exact ⟨this, sp_args_cat av 0⟩)
  rw [lg_entry_eq]
  have e1 : ({ frames := Y.2.2.2.2.1, cells := mc, slots := ms, locals := Y.2.2.2.2.2 } : Room).cells - mc = 0 := Nat.sub_self mc
  have e2 : ({ frames := Y.2.2.2.2.1, cells := mc, slots := ms, locals := Y.2.2.2.2.2 } : Room).slots - ms = 0 := Nat.sub_self ms
  rw [e1, e2] at hw
  exact hw
end SPP
set_option maxRecDepth 20000 in
theorem c_Math_max (l : Launch) (G : sp_G) (m : sp_M) {x y : Int32} : sp_C l G M_Math_max 0 0 [.int x, .int y] m (sp_oI fun v m' => v = (if x < y then y else x) ∧ m' = m) := by
  refine sp_enterF (lv0 := [(0, false, .int x), (1, false, .int y)]) "java/lang/Math" false rfl (by decide +kernel) (fun h => by cases h) (Nat.le_of_ble_eq_true rfl) rfl ?_
  intro w X
  refine sp_iload_n X (pc := 0) (x := x) dJ9_max_7cf53_0 rfl rfl ?_
  refine sp_iload_n X (pc := 1) (x := y) dJ9_max_7cf53_1 rfl rfl ?_
  refine sp_icmp_lt X (pc := 2) (tgt := 9) dJ9_max_7cf53_2 (by decide) (fun hb2 => ?_) (fun hb2 => ?_)
  · refine sp_iload_n X (pc := 9) (x := y) dJ9_max_7cf53_9 rfl rfl ?_
    refine sp_ireturn X (pc := 10) dJ9_max_7cf53_10 rfl ⟨_, rfl, ?_⟩
    first | exact ⟨rfl, rfl⟩ | rfl | (refine ⟨?_, rfl⟩; first | (rw [if_pos (by assumption)]; done) | (rw [if_neg (by assumption)]; done) | (split <;> simp_all; done))
  · refine sp_iload_n X (pc := 5) (x := x) dJ9_max_7cf53_5 rfl rfl ?_
    refine sp_goto X (pc := 6) (tgt := 10) dJ9_max_7cf53_6 (by decide) ?_
    refine sp_ireturn X (pc := 10) dJ9_max_7cf53_10 rfl ⟨_, rfl, ?_⟩
    first | exact ⟨rfl, rfl⟩ | rfl | (refine ⟨?_, rfl⟩; first | (rw [if_pos (by assumption)]; done) | (rw [if_neg (by assumption)]; done) | (split <;> simp_all; done))
set_option maxRecDepth 20000 in
theorem c_Math_min (l : Launch) (G : sp_G) (m : sp_M) {x y : Int32} : sp_C l G M_Math_min 0 0 [.int x, .int y] m (sp_oI fun v m' => v = (if y < x then y else x) ∧ m' = m) := by
  refine sp_enterF (lv0 := [(0, false, .int x), (1, false, .int y)]) "java/lang/Math" false rfl (by decide +kernel) (fun h => by cases h) (Nat.le_of_ble_eq_true rfl) rfl ?_
  intro w X
  refine sp_iload_n X (pc := 0) (x := x) dJ9_min_7cf53_0 rfl rfl ?_
  refine sp_iload_n X (pc := 1) (x := y) dJ9_min_7cf53_1 rfl rfl ?_
  refine sp_icmp_gt X (pc := 2) (tgt := 9) dJ9_min_7cf53_2 (by decide) (fun hb2 => ?_) (fun hb2 => ?_)
  · refine sp_iload_n X (pc := 9) (x := y) dJ9_min_7cf53_9 rfl rfl ?_
    refine sp_ireturn X (pc := 10) dJ9_min_7cf53_10 rfl ⟨_, rfl, ?_⟩
    first | exact ⟨rfl, rfl⟩ | rfl | (refine ⟨?_, rfl⟩; first | (rw [if_pos (by assumption)]; done) | (rw [if_neg (by assumption)]; done) | (split <;> simp_all; done))
  · refine sp_iload_n X (pc := 5) (x := x) dJ9_min_7cf53_5 rfl rfl ?_
    refine sp_goto X (pc := 6) (tgt := 10) dJ9_min_7cf53_6 (by decide) ?_
    refine sp_ireturn X (pc := 10) dJ9_min_7cf53_10 rfl ⟨_, rfl, ?_⟩
    first | exact ⟨rfl, rfl⟩ | rfl | (refine ⟨?_, rfl⟩; first | (rw [if_pos (by assumption)]; done) | (rw [if_neg (by assumption)]; done) | (split <;> simp_all; done))
set_option maxRecDepth 20000 in
theorem c_List_size (l : Launch) (G : sp_G) (m : sp_M) {o : Nat} (ho : m.ty o = 1) : sp_C l G M_List_size 0 0 [.ref o] m (sp_oI fun v m' => v = m.fI 2 o ∧ m' = m) := by
  refine sp_enter (lv0 := [(0, false, va_rf (some o))]) "java/util/ArrayList" false rfl (by decide) (fun h => by cases h) (Nat.le_of_ble_eq_true rfl) rfl ?_
  intro w X
  refine sp_aload_n X (pc := 0) (r := some o) dJx4a65c_size_8abf5_0 rfl rfl ?_
  refine sp_getfield X (pc := 1) (c := 0) (i := 2) (t := 0) (a := o) (v := .int (m.fI 2 o)) rfl (by first | assumption | omega) (by decide) rfl rfl fl_List_48 dJx4a65c_size_8abf5_1 ?_
  refine sp_ireturn X (pc := 4) dJx4a65c_size_8abf5_4 rfl ⟨_, rfl, ?_⟩
  first | exact ⟨rfl, rfl⟩ | rfl | (refine ⟨?_, rfl⟩; first | (rw [if_pos (by assumption)]; done) | (rw [if_neg (by assumption)]; done) | (split <;> simp_all; done))
set_option maxRecDepth 20000 in
theorem c_List_isEmpty (l : Launch) (G : sp_G) (m : sp_M) {o : Nat} (ho : m.ty o = 1) : sp_C l G M_List_isEmpty 0 0 [.ref o] m (sp_oI fun v m' => v = (if m.fI 2 o = 0 then 1 else 0) ∧ m' = m) := by
  refine sp_enter (lv0 := [(0, false, va_rf (some o))]) "java/util/ArrayList" false rfl (by decide) (fun h => by cases h) (Nat.le_of_ble_eq_true rfl) rfl ?_
  intro w X
  refine sp_aload_n X (pc := 0) (r := some o) dJx4a65c_isEmpty_aae02_0 rfl rfl ?_
  refine sp_getfield X (pc := 1) (c := 0) (i := 2) (t := 0) (a := o) (v := .int (m.fI 2 o)) rfl (by first | assumption | omega) (by decide) rfl rfl fl_List_48 dJx4a65c_isEmpty_aae02_1 ?_
  refine sp_if_ne X (pc := 4) (tgt := 11) dJx4a65c_isEmpty_aae02_4 (by decide) (fun hb4 => ?_) (fun hb4 => ?_)
  · refine sp_iconst X (pc := 11) (v := 0) dJx4a65c_isEmpty_aae02_11 (by decide) ?_
    refine sp_ireturn X (pc := 12) dJx4a65c_isEmpty_aae02_12 rfl ⟨_, rfl, ?_⟩
    first | exact ⟨rfl, rfl⟩ | rfl | (refine ⟨?_, rfl⟩; first | (rw [if_pos (by assumption)]; done) | (rw [if_neg (by assumption)]; done) | (split <;> simp_all; done))
  · refine sp_iconst X (pc := 7) (v := 1) dJx4a65c_isEmpty_aae02_7 (by decide) ?_
    refine sp_goto X (pc := 8) (tgt := 12) dJx4a65c_isEmpty_aae02_8 (by decide) ?_
    refine sp_ireturn X (pc := 12) dJx4a65c_isEmpty_aae02_12 rfl ⟨_, rfl, ?_⟩
    first | exact ⟨rfl, rfl⟩ | rfl | (refine ⟨?_, rfl⟩; first | (rw [if_pos (by assumption)]; done) | (rw [if_neg (by assumption)]; done) | (split <;> simp_all; done))
set_option maxRecDepth 20000 in
theorem c_AColl_init (l : Launch) (G : sp_G) (m : sp_M) (o : Nat) : sp_C l G M_AColl_init 0 0 [.ref o] m (sp_oV fun m' => m' = m) := by
  refine sp_enter (lv0 := [(0, false, va_rf (some o))]) "java/util/AbstractCollection" true rfl (by decide) (fun _ => rfl) (Nat.le_of_ble_eq_true rfl) rfl ?_
  intro w X
  refine sp_aload_n X (pc := 0) (r := some o) dJxa1e45_init_da8c8_0 rfl rfl ?_
  refine sp_objInit X (pc := 1) (a := o) rfl lk_AColl_1 oi_1 oi_2 (Nat.le_of_ble_eq_true rfl) (Nat.le_of_ble_eq_true rfl) dJxa1e45_init_da8c8_1 ?_
  refine sp_return X (pc := 4) dJxa1e45_init_da8c8_4 ⟨rfl, ?_⟩
  first | exact ⟨rfl, rfl⟩ | rfl | (refine ⟨?_, rfl⟩; first | (rw [if_pos (by assumption)]; done) | (rw [if_neg (by assumption)]; done) | (split <;> simp_all; done))
set_option maxRecDepth 20000 in
theorem c_AList_init (l : Launch) (G : sp_G) (m : sp_M) {o : Nat} (ho : m.ty o = 1) : sp_C l G M_AList_init 0 0 [.ref o] m (sp_oV fun m' => m' = m.pI 0 o 0) := by
  refine sp_enter (lv0 := [(0, false, va_rf (some o))]) "java/util/AbstractList" true rfl (by decide) (fun _ => rfl) (Nat.le_of_ble_eq_true rfl) rfl ?_
  intro w X
  refine sp_aload_n X (pc := 0) (r := some o) dJxc12de_init_da8c8_0 rfl rfl ?_
  refine sp_callI X (pc := 1) (mc := 0) (ms := 0) (b := o) (r := some o) (As := []) (rest := []) (c_AColl_init l G _ _) ok_AColl_init rfl rfl lk_AList_1 rfl rfl (Nat.zero_le _) (Nat.le_of_ble_eq_true rfl) (Nat.le_of_ble_eq_true rfl) (Nat.zero_le _) (Nat.zero_le _) dJxc12de_init_da8c8_1 (sp_kV fun m1 hp1 => ?_)
  replace hp1 := (hp1).symm; subst hp1
  refine sp_aload_n X (pc := 4) (r := some o) dJxc12de_init_da8c8_4 rfl rfl ?_
  refine sp_iconst X (pc := 5) (v := 0) dJxc12de_init_da8c8_5 (by decide) ?_
  refine sp_putI X (pc := 6) (c := 0) (i := 0) (q := 0) (a := o) rfl (by first | assumption | omega) (by decide) rfl rfl (Or.inl rfl) ⟨rfl, rfl⟩ fl_AList_7 dJxc12de_init_da8c8_6 ?_
  refine sp_return X (pc := 9) dJxc12de_init_da8c8_9 ⟨rfl, ?_⟩
  first | exact ⟨rfl, rfl⟩ | rfl | (refine ⟨?_, rfl⟩; first | (rw [if_pos (by assumption)]; done) | (rw [if_neg (by assumption)]; done) | (split <;> simp_all; done))
set_option maxRecDepth 20000 in
theorem c_Node_isFolder (l : Launch) (G : sp_G) (m : sp_M) {o : Nat} (ho : m.ty o = 6) : sp_C l G M_Node_isFolder 0 0 [.ref o] m (sp_oI fun v m' => v = (if m.fR 323 o = none ∧ m.fR 324 o = none then 1 else 0) ∧ m' = m) := by
  refine sp_enter (lv0 := [(0, false, va_rf (some o))]) "SafePaths$Node" false rfl (by decide) (fun h => by cases h) (Nat.le_of_ble_eq_true rfl) rfl ?_
  intro w X
  refine sp_aload_n X (pc := 0) (r := some o) dX4_isFolder_0 rfl rfl ?_
  refine sp_getfield X (pc := 1) (c := 5) (i := 3) (t := 2) (a := o) (v := va_rf (m.fR 323 o)) rfl (by first | assumption | omega) (by decide) rfl rfl fl_Node_21 dX4_isFolder_1 ?_
  refine sp_ifnonnull X (pc := 4) (tgt := 18) dX4_isFolder_4 (by decide) (fun ra4 hb4 => ?_) (fun hb4 => ?_)
  · refine sp_iconst X (pc := 18) (v := 0) dX4_isFolder_18 (by decide) ?_
    refine sp_ireturn X (pc := 19) dX4_isFolder_19 rfl ⟨_, rfl, ?_⟩
    first | exact ⟨rfl, rfl⟩ | rfl | (refine ⟨?_, rfl⟩; first | (rw [if_pos (by assumption)]; done) | (rw [if_neg (by assumption)]; done) | (split <;> simp_all; done))
  · refine sp_aload_n X (pc := 7) (r := some o) dX4_isFolder_7 rfl rfl ?_
    refine sp_getfield X (pc := 8) (c := 5) (i := 4) (t := 2) (a := o) (v := va_rf (m.fR 324 o)) rfl (by first | assumption | omega) (by decide) rfl rfl fl_Node_25 dX4_isFolder_8 ?_
    refine sp_ifnonnull X (pc := 11) (tgt := 18) dX4_isFolder_11 (by decide) (fun ra11 hb11 => ?_) (fun hb11 => ?_)
    · refine sp_iconst X (pc := 18) (v := 0) dX4_isFolder_18 (by decide) ?_
      refine sp_ireturn X (pc := 19) dX4_isFolder_19 rfl ⟨_, rfl, ?_⟩
      first | exact ⟨rfl, rfl⟩ | rfl | (refine ⟨?_, rfl⟩; first | (rw [if_pos (by assumption)]; done) | (rw [if_neg (by assumption)]; done) | (split <;> simp_all; done))
    · refine sp_iconst X (pc := 14) (v := 1) dX4_isFolder_14 (by decide) ?_
      refine sp_goto X (pc := 15) (tgt := 19) dX4_isFolder_15 (by decide) ?_
      refine sp_ireturn X (pc := 19) dX4_isFolder_19 rfl ⟨_, rfl, ?_⟩
      first | exact ⟨rfl, rfl⟩ | rfl | (refine ⟨?_, rfl⟩; first | (rw [if_pos (by assumption)]; done) | (rw [if_neg (by assumption)]; done) | (split <;> simp_all; done))
set_option maxRecDepth 20000 in
theorem c_Node_up (l : Launch) (G : sp_G) (m : sp_M) {o : Nat} (ho : m.ty o = 6) : sp_C l G M_Node_up 0 0 [.ref o] m (sp_oR fun v m' => v = (if m.fR 321 o = none then some o else m.fR 321 o) ∧ m' = m) := by
  refine sp_enter (lv0 := [(0, false, va_rf (some o))]) "SafePaths$Node" false rfl (by decide) (fun h => by cases h) (Nat.le_of_ble_eq_true rfl) rfl ?_
  intro w X
  refine sp_aload_n X (pc := 0) (r := some o) dX4_up_0 rfl rfl ?_
  refine sp_getfield X (pc := 1) (c := 5) (i := 1) (t := 2) (a := o) (v := va_rf (m.fR 321 o)) rfl (by first | assumption | omega) (by decide) rfl rfl fl_Node_13 dX4_up_1 ?_
  refine sp_ifnonnull X (pc := 4) (tgt := 11) dX4_up_4 (by decide) (fun ra4 hb4 => ?_) (fun hb4 => ?_)
  · refine sp_aload_n X (pc := 11) (r := some o) dX4_up_11 rfl rfl ?_
    refine sp_getfield X (pc := 12) (c := 5) (i := 1) (t := 2) (a := o) (v := va_rf (some ra4)) rfl (by first | assumption | omega) (by decide) rfl (congrArg va_rf hb4) fl_Node_13 dX4_up_12 ?_
    refine sp_areturn X (pc := 15) (by first | exact Or.inl ⟨_, rfl⟩ | exact Or.inr ⟨_, rfl⟩) dX4_up_15 ⟨_, rfl, ?_⟩
    first | exact ⟨rfl, rfl⟩ | rfl | (refine ⟨?_, rfl⟩; first | (rw [if_pos (by assumption)]; done) | (rw [if_neg (by assumption)]; done) | (split <;> simp_all; done))
  · refine sp_aload_n X (pc := 7) (r := some o) dX4_up_7 rfl rfl ?_
    refine sp_goto X (pc := 8) (tgt := 15) dX4_up_8 (by decide) ?_
    refine sp_areturn X (pc := 15) (by first | exact Or.inl ⟨_, rfl⟩ | exact Or.inr ⟨_, rfl⟩) dX4_up_15 ⟨_, rfl, ?_⟩
    first | exact ⟨rfl, rfl⟩ | rfl | (refine ⟨?_, rfl⟩; first | (rw [if_pos (by assumption)]; done) | (rw [if_neg (by assumption)]; done) | (split <;> simp_all; done))
