
/-- the constant text i: its length, its bytes -/
abbrev sp_sl (i : Nat) : Nat := sp_lens.getD i 0
abbrev sp_sb (i j : Nat) : Int32 := (sp_byts.getD i []).getD j 0
theorem sp_sl_le : ∀ i, i < 3 → sp_sl i ≤ 12 := by decide +kernel
theorem sp_sb_ok : ∀ i, i < 3 → ∀ j, j < 12 → sp_sb i j &&& 255 = sp_sb i j ∧ ((sp_sb i j).toUInt32 % 65536).toInt32 = sp_sb i j ∧ narrow .char (.int (sp_sb i j)) = .int (sp_sb i j) ∧ ¬ sp_sb i j < 0 ∧ ¬ 255 < sp_sb i j ∧ (sp_sb i j).toInt8.toInt32 = sp_sb i j := by decide +kernel
section SPS
variable {l : Launch} {G : sp_G} {own : String} {cc : ByteArray} {nL : Nat} {init : Bool} {ret : Option FieldType} {R : Room} {Qo : Option (Option Value → sp_M → Prop)} {w : sp_T}
variable {k n : Nat} {m : sp_M} {pc : Nat} {lv : sp_L} {rest : List Value}
theorem sp_strF (X : sp_X l G own cc nL init ret R Qo w) {nm ds : String} {v : Value} {a idx : Nat} (hv : ∀ U, sp_K G U → va_OF "java/lang/String" nm ds v a (sp_A G) U G.H0) (hl0 : Cond.fieldLink own idx "java/lang/String" nm ds ∈ lw_tbl ∨ ∃ host, Cond.fieldLinkNest own idx "java/lang/String" nm ds host ∈ lw_tbl) (hdg : decode cc pc = .ok (.getfield idx, 3)) (kk : w k n m (pc + 3) lv (v :: rest)) : w k n m pc lv (va_rf (some a) :: rest) := by
  obtain ⟨p, e, s, mm, args, below, meth, cd, Q, hx, hb, hml, hown, hlocks, hret, hini, hK, hQ, rfl⟩ := X
  intro hk0 hn0 H locs ls hH hL hl
  obtain ⟨cf, kf, fi, f, cell, h1, h2, h3, h4, h5, h6⟩ := hv s hK
  have hc : H[a]? = some cell := by rw [hH.2.2.1 a (Nat.not_le.mp h6)]; exact h3
  rcases hl0 with h0 | ⟨host, h0⟩
  · exact W.getf hx hb hown (hK.w h0 rfl _) h1 h2 hc h4 (v := v) h5 rfl rfl hdg (kk hk0 hn0 H locs ls hH hL hl)
  · exact va_Wgetf hx hb hown (hK.w h0 rfl _) h1 h2 hc h4 (v := v) h5 rfl rfl hdg (kk hk0 hn0 H locs ls hH hL hl)
theorem sp_strV (X : sp_X l G own cc nL init ret R Qo w) {i idx : Nat} (hi : i < 3) (hl0 : Cond.fieldLink own idx "java/lang/String" "value" "[B" ∈ lw_tbl ∨ ∃ host, Cond.fieldLinkNest own idx "java/lang/String" "value" "[B" host ∈ lw_tbl) (hdg : decode cc pc = .ok (.getfield idx, 3)) (kk : w k n m (pc + 3) lv (va_rf (some (G.sv i)) :: rest)) : w k n m pc lv (va_rf (some (G.sk i)) :: rest) :=
  sp_strF X (fun U hK => (hK.2.2.2.2.1.1.1 i hi).2.2.1) hl0 hdg kk
theorem sp_strC (X : sp_X l G own cc nL init ret R Qo w) {i idx : Nat} (hi : i < 3) (hl0 : Cond.fieldLink own idx "java/lang/String" "coder" "B" ∈ lw_tbl ∨ ∃ host, Cond.fieldLinkNest own idx "java/lang/String" "coder" "B" host ∈ lw_tbl) (hdg : decode cc pc = .ok (.getfield idx, 3)) (kk : w k n m (pc + 3) lv (.int 0 :: rest)) : w k n m pc lv (va_rf (some (G.sk i)) :: rest) :=
  sp_strF X (fun U hK => (hK.2.2.2.2.1.1.1 i hi).2.1) hl0 hdg kk
theorem sp_alenB (X : sp_X l G own cc nL init ret R Qo w) {i : Nat} (hi : i < 3) (hdg : decode cc pc = .ok (.arraylength, 1)) (kk : w k n m (pc + 1) lv (.int (nI (sp_sl i)) :: rest)) : w k n m pc lv (va_rf (some (G.sv i)) :: rest) := by
  obtain ⟨p, e, s, mm, args, below, meth, cd, Q, hx, hb, hml, hown, hlocks, hret, hini, hK, hQ, rfl⟩ := X
  intro hk0 hn0 H locs ls hH hL hl
  obtain ⟨cell, h1, h2, h3, h4, h5, h6, h7⟩ := (hK.2.2.2.2.1.1.1 i hi).2.2.2
  exact W.alen hx hb (by rw [hH.2.2.1 _ (Nat.not_le.mp h7)]; exact h1) h2 h5 rfl rfl hdg (kk hk0 hn0 H locs ls hH hL hl)
theorem sp_baldB (X : sp_X l G own cc nL init ret R Qo w) {i j : Nat} (hi : i < 3) (hj : j < sp_sl i) (hdg : decode cc pc = .ok (.baload, 1)) (kk : w k n m (pc + 1) lv (.int (sp_sb i j) :: rest)) : w k n m pc lv (.int (nI j) :: va_rf (some (G.sv i)) :: rest) := by
  obtain ⟨p, e, s, mm, args, below, meth, cd, Q, hx, hb, hml, hown, hlocks, hret, hini, hK, hQ, rfl⟩ := X
  intro hk0 hn0 H locs ls hH hL hl
  obtain ⟨cell, h1, h2, h3, h4, h5, h6, h7⟩ := (hK.2.2.2.2.1.1.1 i hi).2.2.2
  have hl9 := sp_sl_le i hi
  have hc : (nI j).toNatClampNeg = j := nI_clamp (by omega)
  refine W.bald hx hb (by rw [hH.2.2.1 _ (Nat.not_le.mp h7)]; exact h1) h2 h3 ?_ (v := .int (sp_sb i j)) ?_ rfl rfl hdg (kk hk0 hn0 H locs ls hH hL hl)
  · rw [hc]
    rintro (q | q)
    · exact absurd q (nI_pos (by omega))
    · have : sp_sl i ≤ cell.slots.size := h4
      omega
  · rw [hc]
    exact h6 j hj
theorem sp_callVS (X : sp_X l G own cc nL init ret R Qo w) {Y : sp_Me} {mc ms np idx i : Nat} {As st0 : List Value} {post : Option Value → sp_M → Prop} (hC : sp_C l G Y mc ms (.ref (G.sk i) :: As) m post) (ho : sp_okV Y np) (hi : i < 3) (hcn : "java/lang/String" = Y.1.cls) (hl : Cond.methodLink own idx Y.1 ∈ lw_tbl) (hnp : As.length = np) (hst : st0 = As.reverse ++ va_rf (some (G.sk i)) :: rest) (hcat : (rest.map fun v => v.category).sum ≤ 8) (hf : Y.2.2.2.2.1 + 1 ≤ R.frames) (hlo : 8 + (Y.2.2.1 + 11) + Y.2.2.2.2.2 ≤ R.locals) (hk : mc ≤ k) (hn : ms ≤ n) (hdg : decode cc pc = .ok (.invokevirtual idx, 3)) (kk : ∀ r m', post r m' → w (k - mc) (n - ms) m' (pc + 3) lv (r.toList ++ rest)) : w k n m pc lv st0 := by
  subst hst
  refine sp_after (av := .ref (G.sk i) :: As) (post := post) (Y := Y) X hk hn kk ?_
  intro p e s mm args below meth cd H locs ls hx hb hml hown hK hH hlv hk0 hn0
  refine va_runV (Ts := []) ⟨hx, hb, hml, hown, fun w hw => by cases hw⟩ hC ⟨sp_callB hK ho.1 hl hf hlo, hK.w ho.2.1 rfl _, hK.w ho.2.2 rfl _⟩ ⟨sp_blind, ?_, fun U hU hW => ⟨rfl, hK.moved hW, by rw [hU]; exact hH⟩⟩ rfl hnp hlv.1.1 rfl ?_ hdg ⟨by omega, by omega⟩
  · rw [← hcn]
    obtain ⟨cell, h1, h2, h3, h4⟩ := (hK.2.2.2.2.1.1.1 i hi).1
    exact ⟨cell, by rw [hH.2.2.1 _ (Nat.not_le.mp h4)]; exact h1, h2, h3⟩
  · show 2 * 0 + _ ≤ 8
    omega
theorem sp_gsQ (X : sp_X l G own cc nL init ret R Qo w) {idx : Nat} (hl0 : Cond.fieldLink own idx "jdk/internal/util/Preconditions" "SIOOBE_FORMATTER" "Ljava/util/function/BiFunction;" ∈ lw_tbl ∨ ∃ host, Cond.fieldLinkNest own idx "jdk/internal/util/Preconditions" "SIOOBE_FORMATTER" "Ljava/util/function/BiFunction;" host ∈ lw_tbl) (hdg : decode cc pc = .ok (.getstatic idx, 3)) (kk : ∀ q : Option Nat, w k n m (pc + 3) lv (va_rf q :: rest)) : w k n m pc lv rest := by
  obtain ⟨p, e, s, mm, args, below, meth, cd, Q, hx, hb, hml, hown, hlocks, hret, hini, hK, hQ, rfl⟩ := X
  intro hk0 hn0 H locs ls hH hL hl
  have key : ∀ q : Option Nat, va_Z "jdk/internal/util/Preconditions" "SIOOBE_FORMATTER" "Ljava/util/function/BiFunction;" (va_rf q) (sp_A G) s G.H0 → W p l e R s mm args below meth cd H locs (R.cells - k) (R.slots - n) Q (F0 mm pc ls rest) := by
    rintro q ⟨cf, kf, fi, f, a, cell, h1, h2, h3, h4, h5, h6, h7, h8⟩
    have hc : H[a]? = some cell := by rw [hH.2.2.1 a (Nat.not_le.mp h8)]; exact h5
    rcases hl0 with h0 | ⟨host, h0⟩
    · exact W.gets hx hb hown (hK.w h0 rfl _) h1 h2 h3 h4 hc (fun e => by rw [e] at h6; cases h6) h7 rfl hdg (kk q hk0 hn0 H locs ls hH hL hl)
    · exact va_WgetsN hx hb hown (hK.w h0 rfl _) h1 h2 h3 h4 hc (fun e => by rw [e] at h6; cases h6) h7 rfl hdg (kk q hk0 hn0 H locs ls hH hL hl)
  rcases hK.2.2.2.2.2.2.2.1 with h | ⟨t, h⟩
  · exact key none h
  · exact key (some t) h
theorem sp_ldcS0 (X : sp_X l G "SafePaths$Name" cc nL init ret R Qo w) (hdg : decode cc pc = .ok (.ldc 60, 2)) (kk : w k n m (pc + 2) lv (va_rf (some (G.sk 0)) :: rest)) : w k n m pc lv rest := by
  obtain ⟨p, e, s, mm, args, below, meth, cd, Q, hx, hb, hml, hown, hlocks, hret, hini, hK, hQ, rfl⟩ := X
  intro hk0 hn0 H locs ls hH hL hl
  exact va_ldcS hx hb hown hK.2.2.2.2.1.2.1 hdg (kk hk0 hn0 H locs ls hH hL hl)
theorem sp_ldcS1 (X : sp_X l G "SafePaths$Name" cc nL init ret R Qo w) (hdg : decode cc pc = .ok (.ldc 71, 2)) (kk : w k n m (pc + 2) lv (va_rf (some (G.sk 1)) :: rest)) : w k n m pc lv rest := by
  obtain ⟨p, e, s, mm, args, below, meth, cd, Q, hx, hb, hml, hown, hlocks, hret, hini, hK, hQ, rfl⟩ := X
  intro hk0 hn0 H locs ls hH hL hl
  exact va_ldcS hx hb hown hK.2.2.2.2.1.2.2.1 hdg (kk hk0 hn0 H locs ls hH hL hl)
theorem sp_ldcS2 (X : sp_X l G "SafePaths$Name" cc nL init ret R Qo w) (hdg : decode cc pc = .ok (.ldc 77, 2)) (kk : w k n m (pc + 2) lv (va_rf (some (G.sk 2)) :: rest)) : w k n m pc lv rest := by
  obtain ⟨p, e, s, mm, args, below, meth, cd, Q, hx, hb, hml, hown, hlocks, hret, hini, hK, hQ, rfl⟩ := X
  intro hk0 hn0 H locs ls hH hL hl
  exact va_ldcS hx hb hown hK.2.2.2.2.1.2.2.2 hdg (kk hk0 hn0 H locs ls hH hL hl)
end SPS
set_option maxRecDepth 20000 in
theorem c_String_isLatin1 (l : Launch) (G : sp_G) (m : sp_M) {i : Nat} (hG : sp_GS G) (hi : i < 3) : sp_C l G M_String_isLatin1 0 0 [.ref (G.sk i)] m (sp_oI fun v m' => v = 1 ∧ m' = m) := by
  refine sp_enterF (lv0 := [(0, false, va_rf (some (G.sk i)))]) "java/lang/String" false rfl (by decide +kernel) (fun h => by cases h) (Nat.le_of_ble_eq_true rfl) rfl ?_
  intro w X
  refine sp_getstatic X (pc := 0) (v := .int 1) hG.2.2.2.2.2 gs_String_38 dJ0_isLatin1_aae02_0 ?_
  refine sp_if_eq X (pc := 3) (tgt := 17) dJ0_isLatin1_aae02_3 (by decide) (fun hb3 => ?_) (fun hb3 => ?_)
  · exact absurd hb3 (by decide) --stop
  · refine sp_aload_n X (pc := 6) (r := some (G.sk i)) dJ0_isLatin1_aae02_6 rfl rfl ?_
    refine sp_strC X (pc := 7) hi gs_String_15 dJ0_isLatin1_aae02_7 ?_
    refine sp_if_ne X (pc := 10) (tgt := 17) dJ0_isLatin1_aae02_10 (by decide) (fun hb10 => ?_) (fun hb10 => ?_)
    · exact absurd rfl hb10 --stop
    · refine sp_iconst X (pc := 13) (v := 1) dJ0_isLatin1_aae02_13 (by decide) ?_
      refine sp_goto X (pc := 14) (tgt := 18) dJ0_isLatin1_aae02_14 (by decide) ?_
      refine sp_ireturn X (pc := 18) dJ0_isLatin1_aae02_18 rfl ⟨_, rfl, ?_⟩
      first | exact ⟨rfl, rfl⟩ | rfl | (refine ⟨?_, rfl⟩; first | (rw [if_pos (by assumption)]; done) | (rw [if_neg (by assumption)]; done) | (split <;> simp_all; done))
set_option maxRecDepth 20000 in
theorem c_String_coder (l : Launch) (G : sp_G) (m : sp_M) {i : Nat} (hG : sp_GS G) (hi : i < 3) : sp_C l G M_String_coder 0 0 [.ref (G.sk i)] m (sp_oI fun v m' => v = 0 ∧ m' = m) := by
  refine sp_enterF (lv0 := [(0, false, va_rf (some (G.sk i)))]) "java/lang/String" false rfl (by decide +kernel) (fun h => by cases h) (Nat.le_of_ble_eq_true rfl) rfl ?_
  intro w X
  refine sp_getstatic X (pc := 0) (v := .int 1) hG.2.2.2.2.2 gs_String_38 dJ0_coder_7d493_0 ?_
  refine sp_if_eq X (pc := 3) (tgt := 13) dJ0_coder_7d493_3 (by decide) (fun hb3 => ?_) (fun hb3 => ?_)
  · exact absurd hb3 (by decide) --stop
  · refine sp_aload_n X (pc := 6) (r := some (G.sk i)) dJ0_coder_7d493_6 rfl rfl ?_
    refine sp_strC X (pc := 7) hi gs_String_15 dJ0_coder_7d493_7 ?_
    refine sp_goto X (pc := 10) (tgt := 14) dJ0_coder_7d493_10 (by decide) ?_
    refine sp_ireturn X (pc := 14) dJ0_coder_7d493_14 rfl ⟨_, rfl, ?_⟩
    first | exact ⟨rfl, rfl⟩ | rfl | (refine ⟨?_, rfl⟩; first | (rw [if_pos (by assumption)]; done) | (rw [if_neg (by assumption)]; done) | (split <;> simp_all; done))
set_option maxRecDepth 20000 in
theorem c_String_length (l : Launch) (G : sp_G) (m : sp_M) {i : Nat} (hG : sp_GS G) (hi : i < 3) : sp_C l G M_String_length 0 0 [.ref (G.sk i)] m (sp_oI fun v m' => v = nI (sp_sl i) ∧ m' = m) := by
  refine sp_enterF (lv0 := [(0, false, va_rf (some (G.sk i)))]) "java/lang/String" false rfl (by decide +kernel) (fun h => by cases h) (Nat.le_of_ble_eq_true rfl) rfl ?_
  intro w X
  refine sp_aload_n X (pc := 0) (r := some (G.sk i)) dJ0_length_8abf5_0 rfl rfl ?_
  refine sp_strV X (pc := 1) hi gs_String_9 dJ0_length_8abf5_1 ?_
  refine sp_alenB X (pc := 4) hi dJ0_length_8abf5_4 ?_
  refine sp_aload_n X (pc := 5) (r := some (G.sk i)) dJ0_length_8abf5_5 rfl rfl ?_
  refine sp_callVS X (pc := 6) (mc := 0) (ms := 0) (As := []) (rest := [.int (nI (sp_sl i))]) (c_String_coder l G _ hG hi) ok_String_coder hi rfl lk_String_335 rfl rfl (by simp [sp_cat_rf, sp_cat_i, sp_cat_l]) (Nat.le_of_ble_eq_true rfl) (Nat.le_of_ble_eq_true rfl) (Nat.zero_le _) (Nat.zero_le _) dJ0_length_8abf5_6 (sp_kI fun v6 m6 hp6 => ?_)
  obtain ⟨hp6v, hp6⟩ := hp6; replace hp6 := (hp6).symm; subst hp6; replace hp6v := (hp6v).symm; subst hp6v
  refine sp_ishr X (pc := 9) dJ0_length_8abf5_9 ?_
  rw [show ((nI (sp_sl i)) >>> (0 &&& 31)) = nI (sp_sl i) from (sc_shr0 (by have := sp_sl_le i hi; omega))]
  refine sp_ireturn X (pc := 10) dJ0_length_8abf5_10 rfl ⟨_, rfl, ?_⟩
  first | exact ⟨rfl, rfl⟩ | rfl | (refine ⟨?_, rfl⟩; first | (rw [if_pos (by assumption)]; done) | (rw [if_neg (by assumption)]; done) | (split <;> simp_all; done))
set_option maxRecDepth 20000 in
theorem c_String_checkIndex (l : Launch) (G : sp_G) (m : sp_M) {x y : Int32} (h0 : ¬ x < 0) (h1 : x < y) : sp_C l G M_String_checkIndex 0 0 [.int x, .int y] m (sp_oV fun m' => m' = m) := by
  refine sp_enterF (lv0 := [(0, false, .int x), (1, false, .int y)]) "java/lang/String" false rfl (by decide +kernel) (fun h => by cases h) (Nat.le_of_ble_eq_true rfl) rfl ?_
  intro w X
  refine sp_iload_n X (pc := 0) (x := x) dJ0_checkIndex_df160_0 rfl rfl ?_
  refine sp_iload_n X (pc := 1) (x := y) dJ0_checkIndex_df160_1 rfl rfl ?_
  refine sp_gsQ X (pc := 2) gs_String_1053 dJ0_checkIndex_df160_2 (fun q => ?_)
  refine sp_callS X (pc := 5) (mc := 0) (ms := 0) (As := [.int x, .int y, va_rf q]) (rest := []) (c_Precond_checkIndex l G _ (by assumption) (by assumption)) ok_Precond_checkIndex lk_String_1059 rfl rfl (Nat.zero_le _) (Nat.le_of_ble_eq_true rfl) (Nat.le_of_ble_eq_true rfl) (Nat.zero_le _) (Nat.zero_le _) dJ0_checkIndex_df160_5 (sp_kI fun v5 m5 hp5 => ?_)
  obtain ⟨hp5v, hp5⟩ := hp5; replace hp5 := (hp5).symm; subst hp5; replace hp5v := (hp5v).symm; subst hp5v
  refine sp_pop X (pc := 8) dJ0_checkIndex_df160_8 rfl ?_
  refine sp_return X (pc := 9) dJ0_checkIndex_df160_9 ⟨rfl, ?_⟩
  first | exact ⟨rfl, rfl⟩ | rfl | (refine ⟨?_, rfl⟩; first | (rw [if_pos (by assumption)]; done) | (rw [if_neg (by assumption)]; done) | (split <;> simp_all; done))
set_option maxRecDepth 20000 in
theorem c_Latin1_charAt (l : Launch) (G : sp_G) (m : sp_M) {i j : Nat} (hi : i < 3) (hj : j < sp_sl i) : sp_C l G M_Latin1_charAt 0 0 [.ref (G.sv i), .int (nI j)] m (sp_oI fun v m' => v = sp_sb i j ∧ m' = m) := by
  refine sp_enterF (lv0 := [(0, false, va_rf (some (G.sv i))), (1, false, .int (nI j))]) "java/lang/StringLatin1" false rfl (by decide +kernel) (fun h => by cases h) (Nat.le_of_ble_eq_true rfl) rfl ?_
  intro w X
  have hl9 := sp_sl_le i hi
  obtain ⟨hb1, hb2, hb3, -⟩ := sp_sb_ok i hi j (by omega)
  refine sp_iload_n X (pc := 0) (x := nI j) dJ1_charAt_3b067_0 rfl rfl ?_
  refine sp_aload_n X (pc := 1) (r := some (G.sv i)) dJ1_charAt_3b067_1 rfl rfl ?_
  refine sp_alenB X (pc := 2) hi dJ1_charAt_3b067_2 ?_
  refine sp_callS X (pc := 3) (mc := 0) (ms := 0) (As := [.int (nI j), .int (nI (sp_sl i))]) (rest := []) (c_String_checkIndex l G _ (nI_pos (by omega)) (nI_lt hj (by omega))) ok_String_checkIndex lk_Latin1_9 rfl rfl (Nat.zero_le _) (Nat.le_of_ble_eq_true rfl) (Nat.le_of_ble_eq_true rfl) (Nat.zero_le _) (Nat.zero_le _) dJ1_charAt_3b067_3 (sp_kV fun m3 hp3 => ?_)
  replace hp3 := (hp3).symm; subst hp3
  refine sp_aload_n X (pc := 6) (r := some (G.sv i)) dJ1_charAt_3b067_6 rfl rfl ?_
  refine sp_iload_n X (pc := 7) (x := nI j) dJ1_charAt_3b067_7 rfl rfl ?_
  refine sp_baldB X (pc := 8) hi hj dJ1_charAt_3b067_8 ?_
  refine sp_sipush X (pc := 9) (v := 255) dJ1_charAt_3b067_9 (by decide) ?_
  refine sp_iand X (pc := 12) dJ1_charAt_3b067_12 ?_
  rw [show ((sp_sb i j) &&& 255) = sp_sb i j from hb1]
  refine sp_i2c X (pc := 13) dJ1_charAt_3b067_13 ?_
  rw [hb2]
  refine sp_ireturn X (pc := 14) dJ1_charAt_3b067_14 hb3 ⟨_, rfl, ?_⟩
  first | exact ⟨rfl, rfl⟩ | rfl | (refine ⟨?_, rfl⟩; first | (rw [if_pos (by assumption)]; done) | (rw [if_neg (by assumption)]; done) | (split <;> simp_all; done))
set_option maxRecDepth 20000 in
theorem c_Latin1_canEncode (l : Launch) (G : sp_G) (m : sp_M) {x : Int32} : sp_C l G M_Latin1_canEncode 0 0 [.int x] m (sp_oI fun v m' => v = (if x < 0 ∨ 255 < x then 0 else 1) ∧ m' = m) := by
  refine sp_enterF (lv0 := [(0, false, .int x)]) "java/lang/StringLatin1" false rfl (by decide +kernel) (fun h => by cases h) (Nat.le_of_ble_eq_true rfl) rfl ?_
  intro w X
  refine sp_iload_n X (pc := 0) (x := x) dJ1_canEncode_9a6ad_0 rfl rfl ?_
  refine sp_if_lt X (pc := 1) (tgt := 15) dJ1_canEncode_9a6ad_1 (by decide) (fun hb1 => ?_) (fun hb1 => ?_)
  · refine sp_iconst X (pc := 15) (v := 0) dJ1_canEncode_9a6ad_15 (by decide) ?_
    refine sp_ireturn X (pc := 16) dJ1_canEncode_9a6ad_16 rfl ⟨_, rfl, ?_⟩
    first
      | exact ⟨by rw [if_pos (Or.inl hb1)], rfl⟩
      | exact ⟨by rw [if_pos (Or.inr hb8)], rfl⟩
      | exact ⟨by rw [if_neg (by rintro (q | q); exact hb1 q; exact hb8 q)], rfl⟩
  · refine sp_iload_n X (pc := 4) (x := x) dJ1_canEncode_9a6ad_4 rfl rfl ?_
    refine sp_sipush X (pc := 5) (v := 255) dJ1_canEncode_9a6ad_5 (by decide) ?_
    refine sp_icmp_gt X (pc := 8) (tgt := 15) dJ1_canEncode_9a6ad_8 (by decide) (fun hb8 => ?_) (fun hb8 => ?_)
    · refine sp_iconst X (pc := 15) (v := 0) dJ1_canEncode_9a6ad_15 (by decide) ?_
      refine sp_ireturn X (pc := 16) dJ1_canEncode_9a6ad_16 rfl ⟨_, rfl, ?_⟩
      first
        | exact ⟨by rw [if_pos (Or.inl hb1)], rfl⟩
        | exact ⟨by rw [if_pos (Or.inr hb8)], rfl⟩
        | exact ⟨by rw [if_neg (by rintro (q | q); exact hb1 q; exact hb8 q)], rfl⟩
    · refine sp_iconst X (pc := 11) (v := 1) dJ1_canEncode_9a6ad_11 (by decide) ?_
      refine sp_goto X (pc := 12) (tgt := 16) dJ1_canEncode_9a6ad_12 (by decide) ?_
      refine sp_ireturn X (pc := 16) dJ1_canEncode_9a6ad_16 rfl ⟨_, rfl, ?_⟩
      first
        | exact ⟨by rw [if_pos (Or.inl hb1)], rfl⟩
        | exact ⟨by rw [if_pos (Or.inr hb8)], rfl⟩
        | exact ⟨by rw [if_neg (by rintro (q | q); exact hb1 q; exact hb8 q)], rfl⟩
set_option maxRecDepth 20000 in
theorem c_Latin1_indexOfChar (l : Launch) (G : sp_G) (m : sp_M) {i : Nat} {c : Int32} (hi : i < 3) : sp_C l G M_Latin1_indexOfChar 0 0 [.ref (G.sv i), .int c, .int (nI 0), .int (nI (sp_sl i))] m (sp_oI fun v m' => ((∃ j, j < sp_sl i ∧ sp_sb i j = c.toInt8.toInt32 ∧ v = nI j) ∨ ((∀ j, j < sp_sl i → ¬ sp_sb i j = c.toInt8.toInt32) ∧ v = -1)) ∧ m' = m) := by
  refine sp_enterF (lv0 := [(0, false, va_rf (some (G.sv i))), (1, false, .int c), (2, false, .int (nI 0)), (3, false, .int (nI (sp_sl i)))]) "java/lang/StringLatin1" false rfl (by decide +kernel) (fun h => by cases h) (Nat.le_of_ble_eq_true rfl) rfl ?_
  intro w X
  have hl9 := sp_sl_le i hi
  refine sp_iload_n X (pc := 0) (x := c) dJ1_indexOfChar_4cfef_0 rfl rfl ?_
  refine sp_i2b X (pc := 1) dJ1_indexOfChar_4cfef_1 ?_
  refine sp_istore X (pc := 2) (lv' := [(4, false, .int c.toInt8.toInt32), (0, false, va_rf (some (G.sv i))), (1, false, .int c), (2, false, .int (nI 0)), (3, false, .int (nI (sp_sl i)))]) dJ1_indexOfChar_4cfef_2  (by decide) rfl ?_
  refine sp_iload_n X (pc := 4) (x := nI 0) dJ1_indexOfChar_4cfef_4 rfl rfl ?_
  refine sp_istore X (pc := 5) (lv' := [(5, false, .int (nI 0)), (4, false, .int c.toInt8.toInt32), (0, false, va_rf (some (G.sv i))), (1, false, .int c), (2, false, .int (nI 0)), (3, false, .int (nI (sp_sl i)))]) dJ1_indexOfChar_4cfef_5  (by decide) rfl ?_
  have loop7 : ∀ (dz : Nat) (q : Nat), q ≤ sp_sl i → (∀ j, j < q → ¬ sp_sb i j = c.toInt8.toInt32) → sp_sl i - q = dz → w 0 0 m 7 [(0, false, va_rf (some (G.sv i))), (3, false, .int (nI (sp_sl i))), (4, false, .int c.toInt8.toInt32), (5, false, .int (nI q))] [] := by
    intro dz
    induction dz using Nat.strongRecOn with
    | ind dz ih =>
      intro q hq0 hno hdz
      refine sp_iload X (pc := 7) (x := nI q) dJ1_indexOfChar_4cfef_7 rfl ?_
      refine sp_iload_n X (pc := 9) (x := nI (sp_sl i)) dJ1_indexOfChar_4cfef_9 rfl rfl ?_
      refine sp_icmp_ge X (pc := 10) (tgt := 31) dJ1_indexOfChar_4cfef_10 (by decide) (fun hb10 => ?_) (fun hb10 => ?_)
      · have hq : sp_sl i ≤ q := by
          rcases Nat.lt_or_ge q (sp_sl i) with z | z
          · exact absurd hb10 (nI_ge z (by omega))
          · exact z
        refine sp_iconst X (pc := 31) (v := (-1)) dJ1_indexOfChar_4cfef_31 (by decide) ?_
        refine sp_ireturn X (pc := 32) dJ1_indexOfChar_4cfef_32 rfl ⟨_, rfl, ?_⟩
        exact ⟨Or.inr ⟨fun j hj => hno j (by omega), rfl⟩, rfl⟩
      · have hq : q < sp_sl i := Nat.lt_of_not_le fun z => hb10 (nI_le z (by omega))
        refine sp_aload_n X (pc := 13) (r := some (G.sv i)) dJ1_indexOfChar_4cfef_13 rfl rfl ?_
        refine sp_iload X (pc := 14) (x := nI q) dJ1_indexOfChar_4cfef_14 rfl ?_
        refine sp_baldB X (pc := 16) hi hq dJ1_indexOfChar_4cfef_16 ?_
        refine sp_iload X (pc := 17) (x := c.toInt8.toInt32) dJ1_indexOfChar_4cfef_17 rfl ?_
        refine sp_icmp_ne X (pc := 19) (tgt := 25) dJ1_indexOfChar_4cfef_19 (by decide) (fun hb19 => ?_) (fun hb19 => ?_)
        · refine sp_iinc X (pc := 25) (v := nI (q + 1)) (lv' := [(5, false, .int (nI (q + 1))), (0, false, va_rf (some (G.sv i))), (3, false, .int (nI (sp_sl i))), (4, false, .int c.toInt8.toInt32)]) dJ1_indexOfChar_4cfef_25 rfl (nI_1 q) (by decide) rfl ?_
          refine sp_goto X (pc := 28) (tgt := 7) dJ1_indexOfChar_4cfef_28 (by decide) ?_
          refine sp_pick X [1, 2, 3, 0] (lv' := [(0, false, va_rf (some (G.sv i))), (3, false, .int (nI (sp_sl i))), (4, false, .int c.toInt8.toInt32), (5, false, .int (nI (q + 1)))]) rfl ?_
          refine ih (sp_sl i - (q + 1)) (by omega) (q + 1) (by omega) (fun j hj => ?_) rfl
          rcases Nat.lt_or_ge j q with z | z
          · exact hno j z
          · rw [show j = q by omega]; exact hb19
        · refine sp_iload X (pc := 22) (x := nI q) dJ1_indexOfChar_4cfef_22 rfl ?_
          refine sp_ireturn X (pc := 24) dJ1_indexOfChar_4cfef_24 rfl ⟨_, rfl, ?_⟩
          exact ⟨Or.inl ⟨q, hq, hb19, rfl⟩, rfl⟩
  refine sp_pick X [2, 5, 1, 0] (lv' := [(0, false, va_rf (some (G.sv i))), (3, false, .int (nI (sp_sl i))), (4, false, .int c.toInt8.toInt32), (5, false, .int (nI 0))]) rfl ?_
  exact loop7 _ 0 (Nat.zero_le _) (fun j hj => absurd hj (by omega)) rfl
set_option maxRecDepth 20000 in
theorem c_Latin1_indexOf (l : Launch) (G : sp_G) (m : sp_M) {i : Nat} {c : Int32} (hi : i < 3) : sp_C l G M_Latin1_indexOf 0 0 [.ref (G.sv i), .int c, .int 0, .int (nI (sp_sl i))] m (sp_oI fun v m' => (¬ v < 0 ↔ ¬ c < 0 ∧ ¬ 255 < c ∧ ∃ j, j < sp_sl i ∧ sp_sb i j = c.toInt8.toInt32) ∧ m' = m) := by
  refine sp_enterF (lv0 := [(0, false, va_rf (some (G.sv i))), (1, false, .int c), (2, false, .int 0), (3, false, .int (nI (sp_sl i)))]) "java/lang/StringLatin1" false rfl (by decide +kernel) (fun h => by cases h) (Nat.le_of_ble_eq_true rfl) rfl ?_
  intro w X
  have hl9 := sp_sl_le i hi
  have hl7 : ∀ i, i < 3 → 0 < sp_sl i := by decide +kernel
  have hl8 := hl7 i hi
  refine sp_iload_n X (pc := 0) (x := c) dJ1_indexOf_4cfef_0 rfl rfl ?_
  refine sp_callS X (pc := 1) (mc := 0) (ms := 0) (As := [.int c]) (rest := []) (c_Latin1_canEncode l G _) ok_Latin1_canEncode lk_Latin1_88 rfl rfl (Nat.zero_le _) (Nat.le_of_ble_eq_true rfl) (Nat.le_of_ble_eq_true rfl) (Nat.zero_le _) (Nat.zero_le _) dJ1_indexOf_4cfef_1 (sp_kI fun v1 m1 hp1 => ?_)
  obtain ⟨hp1v, hp1⟩ := hp1; replace hp1 := (hp1).symm; subst hp1; replace hp1v := (hp1v).symm; subst hp1v
  refine sp_if_ne X (pc := 4) (tgt := 9) dJ1_indexOf_4cfef_4 (by decide) (fun hb4 => ?_) (fun hb4 => ?_)
  · have hc : ¬ (c < 0 ∨ 255 < c) := fun q => hb4 (if_pos q)
    refine sp_iload_n X (pc := 9) (x := 0) dJ1_indexOf_4cfef_9 rfl rfl ?_
    refine sp_iconst X (pc := 10) (v := 0) dJ1_indexOf_4cfef_10 (by decide) ?_
    refine sp_callS X (pc := 11) (mc := 0) (ms := 0) (As := [.int 0, .int 0]) (rest := []) (c_Math_max l G _) ok_Math_max lk_Latin1_92 rfl rfl (Nat.zero_le _) (Nat.le_of_ble_eq_true rfl) (Nat.le_of_ble_eq_true rfl) (Nat.zero_le _) (Nat.zero_le _) dJ1_indexOf_4cfef_11 (sp_kI fun v11 m11 hp11 => ?_)
    obtain ⟨hp11v, hp11⟩ := hp11; replace hp11 := (hp11).symm; subst hp11; replace hp11v := (hp11v).symm; subst hp11v
    rw [show (if (0 : Int32) < 0 then (0 : Int32) else 0) = nI 0 by decide +kernel]
    refine sp_istore_n X (pc := 14) (lv' := [(2, false, .int (nI 0)), (0, false, va_rf (some (G.sv i))), (1, false, .int c), (3, false, .int (nI (sp_sl i)))]) dJ1_indexOf_4cfef_14 rfl (by decide) rfl ?_
    refine sp_iload_n X (pc := 15) (x := nI (sp_sl i)) dJ1_indexOf_4cfef_15 rfl rfl ?_
    refine sp_aload_n X (pc := 16) (r := some (G.sv i)) dJ1_indexOf_4cfef_16 rfl rfl ?_
    refine sp_alenB X (pc := 17) hi dJ1_indexOf_4cfef_17 ?_
    refine sp_callS X (pc := 18) (mc := 0) (ms := 0) (As := [.int (nI (sp_sl i)), .int (nI (sp_sl i))]) (rest := []) (c_Math_min l G _) ok_Math_min lk_Latin1_38 rfl rfl (Nat.zero_le _) (Nat.le_of_ble_eq_true rfl) (Nat.le_of_ble_eq_true rfl) (Nat.zero_le _) (Nat.zero_le _) dJ1_indexOf_4cfef_18 (sp_kI fun v18 m18 hp18 => ?_)
    obtain ⟨hp18v, hp18⟩ := hp18; replace hp18 := (hp18).symm; subst hp18; replace hp18v := (hp18v).symm; subst hp18v
    rw [if_neg (nI_nlt (Nat.le_refl _) (by omega))]
    refine sp_istore_n X (pc := 21) (lv' := [(3, false, .int (nI (sp_sl i))), (2, false, .int (nI 0)), (0, false, va_rf (some (G.sv i))), (1, false, .int c)]) dJ1_indexOf_4cfef_21 rfl (by decide) rfl ?_
    refine sp_iload_n X (pc := 22) (x := nI 0) dJ1_indexOf_4cfef_22 rfl rfl ?_
    refine sp_iload_n X (pc := 23) (x := nI (sp_sl i)) dJ1_indexOf_4cfef_23 rfl rfl ?_
    refine sp_icmp_lt X (pc := 24) (tgt := 29) dJ1_indexOf_4cfef_24 (by decide) (fun hb24 => ?_) (fun hb24 => ?_)
    · refine sp_aload_n X (pc := 29) (r := some (G.sv i)) dJ1_indexOf_4cfef_29 rfl rfl ?_
      refine sp_iload_n X (pc := 30) (x := c) dJ1_indexOf_4cfef_30 rfl rfl ?_
      refine sp_iload_n X (pc := 31) (x := nI 0) dJ1_indexOf_4cfef_31 rfl rfl ?_
      refine sp_iload_n X (pc := 32) (x := nI (sp_sl i)) dJ1_indexOf_4cfef_32 rfl rfl ?_
      refine sp_callS X (pc := 33) (mc := 0) (ms := 0) (As := [va_rf (some (G.sv i)), .int c, .int (nI 0), .int (nI (sp_sl i))]) (rest := []) (c_Latin1_indexOfChar l G _ hi) ok_Latin1_indexOfChar lk_Latin1_95 rfl rfl (Nat.zero_le _) (Nat.le_of_ble_eq_true rfl) (Nat.le_of_ble_eq_true rfl) (Nat.zero_le _) (Nat.zero_le _) dJ1_indexOf_4cfef_33 (sp_kI fun v33 m33 hp33 => ?_)
      obtain ⟨hp33, hp33m⟩ := hp33; replace hp33m := (hp33m).symm; subst hp33m
      refine sp_ireturn X (pc := 36) dJ1_indexOf_4cfef_36 rfl ⟨_, rfl, ?_⟩
      refine ⟨?_, rfl⟩
      rcases hp33 with ⟨j, h1, h2, h3⟩ | ⟨h1, h2⟩
      · rw [h3]
        exact ⟨fun _ => ⟨fun q => hc (Or.inl q), fun q => hc (Or.inr q), j, h1, h2⟩, fun _ => nI_pos (by omega)⟩
      · rw [h2]
        exact ⟨fun q => absurd (by decide) q, fun q => by obtain ⟨-, -, j, h3, h4⟩ := q; exact absurd h4 (h1 j h3)⟩
    · exact absurd (nI_lt hl8 (by omega)) hb24 --stop
  · have hc : c < 0 ∨ 255 < c := by
      by_cases q : c < 0 ∨ 255 < c
      · exact q
      · rw [if_neg q] at hb4
        exact absurd hb4 (by decide)
    refine sp_iconst X (pc := 7) (v := (-1)) dJ1_indexOf_4cfef_7 (by decide) ?_
    refine sp_ireturn X (pc := 8) dJ1_indexOf_4cfef_8 rfl ⟨_, rfl, ?_⟩
    exact ⟨⟨fun q => absurd (by decide) q, fun q => absurd hc (by rintro (z | z); exact q.1 z; exact q.2.1 z)⟩, rfl⟩
set_option maxRecDepth 20000 in
theorem c_String_indexOf2 (l : Launch) (G : sp_G) (m : sp_M) {i : Nat} {c : Int32} (hG : sp_GS G) (hi : i < 3) : sp_C l G M_String_indexOf2 0 0 [.ref (G.sk i), .int c, .int 0] m (sp_oI fun v m' => (¬ v < 0 ↔ ¬ c < 0 ∧ ¬ 255 < c ∧ ∃ j, j < sp_sl i ∧ sp_sb i j = c.toInt8.toInt32) ∧ m' = m) := by
  refine sp_enterF (lv0 := [(0, false, va_rf (some (G.sk i))), (1, false, .int c), (2, false, .int 0)]) "java/lang/String" false rfl (by decide +kernel) (fun h => by cases h) (Nat.le_of_ble_eq_true rfl) rfl ?_
  intro w X
  refine sp_aload_n X (pc := 0) (r := some (G.sk i)) dJ0_indexOf_7cf53_0 rfl rfl ?_
  refine sp_callVS X (pc := 1) (mc := 0) (ms := 0) (As := []) (rest := []) (c_String_isLatin1 l G _ hG hi) ok_String_isLatin1 hi rfl lk_String_492 rfl rfl (Nat.zero_le _) (Nat.le_of_ble_eq_true rfl) (Nat.le_of_ble_eq_true rfl) (Nat.zero_le _) (Nat.zero_le _) dJ0_indexOf_7cf53_1 (sp_kI fun v1 m1 hp1 => ?_)
  obtain ⟨hp1v, hp1⟩ := hp1; replace hp1 := (hp1).symm; subst hp1; replace hp1v := (hp1v).symm; subst hp1v
  refine sp_if_eq X (pc := 4) (tgt := 23) dJ0_indexOf_7cf53_4 (by decide) (fun hb4 => ?_) (fun hb4 => ?_)
  · exact absurd hb4 (by decide) --stop
  · refine sp_aload_n X (pc := 7) (r := some (G.sk i)) dJ0_indexOf_7cf53_7 rfl rfl ?_
    refine sp_strV X (pc := 8) hi gs_String_9 dJ0_indexOf_7cf53_8 ?_
    refine sp_iload_n X (pc := 11) (x := c) dJ0_indexOf_7cf53_11 rfl rfl ?_
    refine sp_iload_n X (pc := 12) (x := 0) dJ0_indexOf_7cf53_12 rfl rfl ?_
    refine sp_aload_n X (pc := 13) (r := some (G.sk i)) dJ0_indexOf_7cf53_13 rfl rfl ?_
    refine sp_callVS X (pc := 14) (mc := 0) (ms := 0) (As := []) (rest := [.int 0, .int c, va_rf (some (G.sv i))]) (c_String_length l G _ hG hi) ok_String_length hi rfl lk_String_505 rfl rfl (by simp [sp_cat_rf, sp_cat_i, sp_cat_l]) (Nat.le_of_ble_eq_true rfl) (Nat.le_of_ble_eq_true rfl) (Nat.zero_le _) (Nat.zero_le _) dJ0_indexOf_7cf53_14 (sp_kI fun v14 m14 hp14 => ?_)
    obtain ⟨hp14v, hp14⟩ := hp14; replace hp14 := (hp14).symm; subst hp14; replace hp14v := (hp14v).symm; subst hp14v
    refine sp_callS X (pc := 17) (mc := 0) (ms := 0) (As := [va_rf (some (G.sv i)), .int c, .int 0, .int (nI (sp_sl i))]) (rest := []) (c_Latin1_indexOf l G _ hi) ok_Latin1_indexOf lk_String_637 rfl rfl (Nat.zero_le _) (Nat.le_of_ble_eq_true rfl) (Nat.le_of_ble_eq_true rfl) (Nat.zero_le _) (Nat.zero_le _) dJ0_indexOf_7cf53_17 (sp_kI fun v17 m17 hp17 => ?_)
    obtain ⟨hp17, hp17m⟩ := hp17; replace hp17m := (hp17m).symm; subst hp17m
    refine sp_goto X (pc := 20) (tgt := 36) dJ0_indexOf_7cf53_20 (by decide) ?_
    refine sp_ireturn X (pc := 36) dJ0_indexOf_7cf53_36 rfl ⟨_, rfl, ?_⟩
    exact ⟨hp17, rfl⟩
set_option maxRecDepth 20000 in
theorem c_String_indexOf1 (l : Launch) (G : sp_G) (m : sp_M) {i : Nat} {c : Int32} (hG : sp_GS G) (hi : i < 3) : sp_C l G M_String_indexOf1 0 0 [.ref (G.sk i), .int c] m (sp_oI fun v m' => (¬ v < 0 ↔ ¬ c < 0 ∧ ¬ 255 < c ∧ ∃ j, j < sp_sl i ∧ sp_sb i j = c.toInt8.toInt32) ∧ m' = m) := by
  refine sp_enterF (lv0 := [(0, false, va_rf (some (G.sk i))), (1, false, .int c)]) "java/lang/String" false rfl (by decide +kernel) (fun h => by cases h) (Nat.le_of_ble_eq_true rfl) rfl ?_
  intro w X
  refine sp_aload_n X (pc := 0) (r := some (G.sk i)) dJ0_indexOf_0f7a4_0 rfl rfl ?_
  refine sp_iload_n X (pc := 1) (x := c) dJ0_indexOf_0f7a4_1 rfl rfl ?_
  refine sp_iconst X (pc := 2) (v := 0) dJ0_indexOf_0f7a4_2 (by decide) ?_
  refine sp_callVS X (pc := 3) (mc := 0) (ms := 0) (As := [.int c, .int 0]) (rest := []) (c_String_indexOf2 l G _ hG hi) ok_String_indexOf2 hi rfl lk_String_633 rfl rfl (Nat.zero_le _) (Nat.le_of_ble_eq_true rfl) (Nat.le_of_ble_eq_true rfl) (Nat.zero_le _) (Nat.zero_le _) dJ0_indexOf_0f7a4_3 (sp_kI fun v3 m3 hp3 => ?_)
  obtain ⟨hp3, hp3m⟩ := hp3; replace hp3m := (hp3m).symm; subst hp3m
  refine sp_ireturn X (pc := 6) dJ0_indexOf_0f7a4_6 rfl ⟨_, rfl, ?_⟩
  exact ⟨hp3, rfl⟩
set_option maxRecDepth 20000 in
theorem c_String_charAt (l : Launch) (G : sp_G) (m : sp_M) {i j : Nat} (hG : sp_GS G) (hi : i < 3) (hj : j < sp_sl i) : sp_C l G M_String_charAt 0 0 [.ref (G.sk i), .int (nI j)] m (sp_oI fun v m' => v = sp_sb i j ∧ m' = m) := by
  refine sp_enterF (lv0 := [(0, false, va_rf (some (G.sk i))), (1, false, .int (nI j))]) "java/lang/String" false rfl (by decide +kernel) (fun h => by cases h) (Nat.le_of_ble_eq_true rfl) rfl ?_
  intro w X
  have hl9 := sp_sl_le i hi
  obtain ⟨-, -, hb3, -⟩ := sp_sb_ok i hi j (by omega)
  refine sp_aload_n X (pc := 0) (r := some (G.sk i)) dJ0_charAt_5068e_0 rfl rfl ?_
  refine sp_callVS X (pc := 1) (mc := 0) (ms := 0) (As := []) (rest := []) (c_String_isLatin1 l G _ hG hi) ok_String_isLatin1 hi rfl lk_String_492 rfl rfl (Nat.zero_le _) (Nat.le_of_ble_eq_true rfl) (Nat.le_of_ble_eq_true rfl) (Nat.zero_le _) (Nat.zero_le _) dJ0_charAt_5068e_1 (sp_kI fun v1 m1 hp1 => ?_)
  obtain ⟨hp1v, hp1⟩ := hp1; replace hp1 := (hp1).symm; subst hp1; replace hp1v := (hp1v).symm; subst hp1v
  refine sp_if_eq X (pc := 4) (tgt := 16) dJ0_charAt_5068e_4 (by decide) (fun hb4 => ?_) (fun hb4 => ?_)
  · exact absurd hb4 (by decide) --stop
  · refine sp_aload_n X (pc := 7) (r := some (G.sk i)) dJ0_charAt_5068e_7 rfl rfl ?_
    refine sp_strV X (pc := 8) hi gs_String_9 dJ0_charAt_5068e_8 ?_
    refine sp_iload_n X (pc := 11) (x := nI j) dJ0_charAt_5068e_11 rfl rfl ?_
    refine sp_callS X (pc := 12) (mc := 0) (ms := 0) (As := [va_rf (some (G.sv i)), .int (nI j)]) (rest := []) (c_Latin1_charAt l G _ hi hj) ok_Latin1_charAt lk_String_495 rfl rfl (Nat.zero_le _) (Nat.le_of_ble_eq_true rfl) (Nat.le_of_ble_eq_true rfl) (Nat.zero_le _) (Nat.zero_le _) dJ0_charAt_5068e_12 (sp_kI fun v12 m12 hp12 => ?_)
    obtain ⟨hp12v, hp12⟩ := hp12; replace hp12 := (hp12).symm; subst hp12; replace hp12v := (hp12v).symm; subst hp12v
    refine sp_ireturn X (pc := 15) dJ0_charAt_5068e_15 hb3 ⟨_, rfl, ?_⟩
    first | exact ⟨rfl, rfl⟩ | rfl | (refine ⟨?_, rfl⟩; first | (rw [if_pos (by assumption)]; done) | (rw [if_neg (by assumption)]; done) | (split <;> simp_all; done))
