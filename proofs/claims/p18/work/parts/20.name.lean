
theorem sp_nlt {a b : Nat} (h : ¬ nI b ≤ nI a) (ha : a < 2 ^ 31) : a < b := Nat.lt_of_not_le fun q => h (nI_le q ha)
theorem sp_nge {a b : Nat} (h : nI b ≤ nI a) (ha : a < 2 ^ 31) (hb : b < 2 ^ 31) : b ≤ a := (nI_leI hb ha).mp h
theorem sp_neq {a b : Nat} (h : nI a = nI b) (ha : a < 2 ^ 31) (hb : b < 2 ^ 31) : a = b := (nI_eq ha hb).mp h
theorem sp_k (n : Nat) : Int32.ofNat n = nI n := rfl
/-- an int array's elements are written all at once -/
def sp_M.wI (m : sp_M) (a : Nat) (f : Nat → Int32) : sp_M := (m.nx, m.ty, m.ln, m.fI, m.fL, m.fR, fun b j => if b = a then f j else m.aI b j, m.aL, m.aR)
theorem sp_wI_aI (m : sp_M) (a : Nat) (f : Nat → Int32) (b j : Nat) : (m.wI a f).aI b j = if b = a then f j else m.aI b j := rfl
theorem sp_wI_sI (m : sp_M) (a i : Nat) (f : Nat → Int32) (v : Int32) : (m.wI a f).sI a i v = m.wI a (fun j => if j = i then v else f j) := by
  refine sp_M_ext rfl rfl rfl rfl rfl rfl ?_ rfl rfl
  funext b j
  rw [sp_sI_aI, sp_wI_aI, sp_wI_aI]
  by_cases hb : b = a
  · subst hb
    by_cases hj : j = i
    · simp [hj]
    · simp [hj]
  · simp [hb]
theorem sp_wI_sIc (m : sp_M) (a c i : Nat) (f : Nat → Int32) (v : Int32) (hac : a ≠ c) : (m.wI a f).sI c i v = (m.sI c i v).wI a f := by
  refine sp_M_ext (Eq.trans (b := m.nx) rfl rfl) (Eq.trans (b := m.ty) rfl rfl) (Eq.trans (b := m.ln) rfl rfl) (Eq.trans (b := m.fI) rfl rfl) (Eq.trans (b := m.fL) rfl rfl) (Eq.trans (b := m.fR) rfl rfl) ?_ (Eq.trans (b := m.aL) rfl rfl) (Eq.trans (b := m.aR) rfl rfl)
  funext b j
  show (if b = c ∧ j = i then v else if b = a then f j else m.aI b j) = (if b = a then f j else if b = c ∧ j = i then v else m.aI b j)
  by_cases hb : b = a
  · have hbc : ¬ (b = c ∧ j = i) := fun q => hac (hb.symm.trans q.1)
    simp only [if_pos hb, if_neg hbc]
  · simp only [if_neg hb]
theorem sp_wI_id (m : sp_M) (a : Nat) (f : Nat → Int32) (hf : ∀ j, f j = m.aI a j) : m.wI a f = m := by
  refine sp_M_ext rfl rfl rfl rfl rfl rfl ?_ rfl rfl
  funext b j
  rw [sp_wI_aI]
  split
  · rename_i h
    rw [h, hf]
  · rfl
/-- behind Name(..): the name at o with the bytes g 0 .. g (n - 1) -/
def sp_mkN (m : sp_M) (o n : Nat) (g : Nat → Int32) : sp_M := (((((m.newA 20 n).pR 256 o (some m.nx)).newA 20 n).pR 257 o (some (m.nx + 1))).wI m.nx (fun j => if j < n then g j else 0)).wI (m.nx + 1) (fun j => if j < n then sp_sm (g j) else 0)
/-- up to the first dot -/
def sp_stem (m : sp_M) (b t : Nat) : Prop := t ≤ m.ln b ∧ (∀ j, j < t → ¬ m.aI b j = 46) ∧ (t < m.ln b → m.aI b t = 46)
def sp_eqA (m : sp_M) (a b : Nat) : Prop := m.ln a = m.ln b ∧ ∀ j, j < m.ln a → m.aI a j = m.aI b j
def sp_isUp (m : sp_M) (b : Nat) : Prop := m.ln b = 2 ∧ m.aI b 0 = 46 ∧ m.aI b 1 = 46
def sp_ctl (m : sp_M) (b : Nat) : Prop := ∃ j, j < m.ln b ∧ (m.aI b j < 32 ∨ m.aI b j = 127)
def sp_mk1 (x : Int32) : Prop := ¬ (x.toUInt32 % 65536).toInt32 < 0 ∧ ¬ 255 < (x.toUInt32 % 65536).toInt32 ∧ ∃ j, j < sp_sl 0 ∧ sp_sb 0 j = ((x.toUInt32 % 65536).toInt32).toInt8.toInt32
def sp_mark (m : sp_M) (b : Nat) : Prop := ∃ j, j < m.ln b ∧ sp_mk1 (m.aI b j)
def sp_beg (m : sp_M) (s i : Nat) : Prop := 3 ≤ m.ln s ∧ ∃ q, 3 * q + 2 < sp_sl i ∧ m.aI s 0 = sp_sb i (3 * q) ∧ m.aI s 1 = sp_sb i (3 * q + 1) ∧ m.aI s 2 = sp_sb i (3 * q + 2)
def sp_kept (m : sp_M) (b s : Nat) : Prop := (sp_stem m b 3 ∧ sp_beg m s 1) ∨ (sp_stem m b 4 ∧ 49 ≤ m.aI b 3 ∧ m.aI b 3 ≤ 57 ∧ sp_beg m s 2)
def sp_oth (m : sp_M) (b s : Nat) : Prop := (0 < m.ln b ∧ (m.aI b (m.ln b - 1) = 46 ∨ m.aI b (m.ln b - 1) = 32)) ∨ sp_mark m b ∨ sp_kept m b s
theorem sp_stem_fun {m : sp_M} {b t u : Nat} (h1 : sp_stem m b t) (h2 : sp_stem m b u) : t = u := by
  rcases Nat.lt_trichotomy t u with h | h | h
  · exact absurd (h1.2.2 (by have := h2.1; omega)) (h2.2.1 t h)
  · exact h
  · exact absurd (h2.2.2 (by have := h1.1; omega)) (h1.2.1 u h)
set_option maxRecDepth 20000 in
theorem c_Name_smallLetter (l : Launch) (G : sp_G) (m : sp_M) {x : Int32} : sp_C l G M_Name_smallLetter 0 0 [.int x] m (sp_oI fun v m' => v = sp_sm x ∧ m' = m) := by
  refine sp_enter (lv0 := [(0, false, .int x)]) "SafePaths$Name" false rfl (by decide) (fun h => by cases h) (Nat.le_of_ble_eq_true rfl) rfl ?_
  intro w X
  refine sp_iload_n X (pc := 0) (x := x) dX3_smallLetter_0 rfl rfl ?_
  refine sp_bipush X (pc := 1) (v := 65) dX3_smallLetter_1 (by decide) ?_
  refine sp_icmp_lt X (pc := 3) (tgt := 19) dX3_smallLetter_3 (by decide) (fun hb3 => ?_) (fun hb3 => ?_)
  · refine sp_iload_n X (pc := 19) (x := x) dX3_smallLetter_19 rfl rfl ?_
    refine sp_ireturn X (pc := 20) dX3_smallLetter_20 rfl ⟨_, rfl, ?_⟩
    unfold sp_sm
    first
      | exact ⟨by rw [if_neg (by rintro ⟨q, -⟩; exact absurd hb3 (Int32.not_lt.mpr q))], rfl⟩
      | exact ⟨by rw [if_neg (by rintro ⟨-, q⟩; exact absurd hb9 (Int32.not_lt.mpr q))], rfl⟩
      | exact ⟨by rw [if_pos ⟨Int32.not_lt.mp hb3, Int32.not_lt.mp hb9⟩], rfl⟩
  · refine sp_iload_n X (pc := 6) (x := x) dX3_smallLetter_6 rfl rfl ?_
    refine sp_bipush X (pc := 7) (v := 90) dX3_smallLetter_7 (by decide) ?_
    refine sp_icmp_gt X (pc := 9) (tgt := 19) dX3_smallLetter_9 (by decide) (fun hb9 => ?_) (fun hb9 => ?_)
    · refine sp_iload_n X (pc := 19) (x := x) dX3_smallLetter_19 rfl rfl ?_
      refine sp_ireturn X (pc := 20) dX3_smallLetter_20 rfl ⟨_, rfl, ?_⟩
      unfold sp_sm
      first
        | exact ⟨by rw [if_neg (by rintro ⟨q, -⟩; exact absurd hb3 (Int32.not_lt.mpr q))], rfl⟩
        | exact ⟨by rw [if_neg (by rintro ⟨-, q⟩; exact absurd hb9 (Int32.not_lt.mpr q))], rfl⟩
        | exact ⟨by rw [if_pos ⟨Int32.not_lt.mp hb3, Int32.not_lt.mp hb9⟩], rfl⟩
    · refine sp_iload_n X (pc := 12) (x := x) dX3_smallLetter_12 rfl rfl ?_
      refine sp_bipush X (pc := 13) (v := 32) dX3_smallLetter_13 (by decide) ?_
      refine sp_iadd X (pc := 15) dX3_smallLetter_15 ?_
      refine sp_goto X (pc := 16) (tgt := 20) dX3_smallLetter_16 (by decide) ?_
      refine sp_ireturn X (pc := 20) dX3_smallLetter_20 rfl ⟨_, rfl, ?_⟩
      unfold sp_sm
      first
        | exact ⟨by rw [if_neg (by rintro ⟨q, -⟩; exact absurd hb3 (Int32.not_lt.mpr q))], rfl⟩
        | exact ⟨by rw [if_neg (by rintro ⟨-, q⟩; exact absurd hb9 (Int32.not_lt.mpr q))], rfl⟩
        | exact ⟨by rw [if_pos ⟨Int32.not_lt.mp hb3, Int32.not_lt.mp hb9⟩], rfl⟩
set_option maxRecDepth 20000 in
theorem c_Name_length (l : Launch) (G : sp_G) (m : sp_M) {a b s : Nat} (h : sp_nm m a b s) : sp_C l G M_Name_length 0 0 [.ref a] m (sp_oI fun v m' => v = nI (m.ln b) ∧ m' = m) := by
  refine sp_enter (lv0 := [(0, false, va_rf (some a))]) "SafePaths$Name" false rfl (by decide) (fun h => by cases h) (Nat.le_of_ble_eq_true rfl) rfl ?_
  intro w X
  have hnm := h
  obtain ⟨ha, hb, hs, htb, hts, hls, hl⟩ := h
  refine sp_aload_n X (pc := 0) (r := some a) dX3_length_0 rfl rfl ?_
  refine sp_getfield X (pc := 1) (c := 4) (i := 0) (t := 2) (a := a) (v := va_rf (some b)) rfl (by first | assumption | omega) (by decide) rfl (congrArg va_rf hb) fl_Name_18 dX3_length_1 ?_
  refine sp_arraylength X (pc := 4) (a := b) rfl (by omega) dX3_length_4 ?_
  rw [show (Int32.ofNat (m.ln b)) = nI (m.ln b) from rfl]
  refine sp_ireturn X (pc := 5) dX3_length_5 rfl ⟨_, rfl, ?_⟩
  first | exact ⟨rfl, rfl⟩ | rfl | (refine ⟨?_, rfl⟩; first | (rw [if_pos (by assumption)]; done) | (rw [if_neg (by assumption)]; done) | (split <;> simp_all; done))
set_option maxRecDepth 20000 in
theorem c_Name_byteAt (l : Launch) (G : sp_G) (m : sp_M) {a b s : Nat} (h : sp_nm m a b s) {i : Int32} : sp_C l G M_Name_byteAt 0 0 [.ref a, .int i] m (sp_oI fun v m' => ((vp_in i (m.ln b) ∧ v = m.aI b i.toNatClampNeg) ∨ (¬ vp_in i (m.ln b) ∧ v = -1)) ∧ m' = m) := by
  refine sp_enter (lv0 := [(0, false, va_rf (some a)), (1, false, .int i)]) "SafePaths$Name" false rfl (by decide) (fun h => by cases h) (Nat.le_of_ble_eq_true rfl) rfl ?_
  intro w X
  have hnm := h
  obtain ⟨ha, hb, hs, htb, hts, hls, hl⟩ := h
  refine sp_iload_n X (pc := 0) (x := i) dX3_byteAt_0 rfl rfl ?_
  refine sp_if_lt X (pc := 1) (tgt := 22) dX3_byteAt_1 (by decide) (fun hb1 => ?_) (fun hb1 => ?_)
  · refine sp_iconst X (pc := 22) (v := (-1)) dX3_byteAt_22 (by decide) ?_
    refine sp_ireturn X (pc := 23) dX3_byteAt_23 rfl ⟨_, rfl, ?_⟩
    refine ⟨?_, rfl⟩
    first
      | exact Or.inl ⟨hin, rfl⟩
      | exact Or.inr ⟨fun q => q (Or.inl hb1), rfl⟩
      | (refine Or.inr ⟨fun q => q (Or.inr ?_), rfl⟩
         obtain ⟨j, hj, rfl⟩ := nI_of hb1
         rw [nI_clamp hj]
         exact (nI_leI (by omega) hj).mp hb10)
  · refine sp_iload_n X (pc := 4) (x := i) dX3_byteAt_4 rfl rfl ?_
    refine sp_aload_n X (pc := 5) (r := some a) dX3_byteAt_5 rfl rfl ?_
    refine sp_getfield X (pc := 6) (c := 4) (i := 0) (t := 2) (a := a) (v := va_rf (some b)) rfl (by first | assumption | omega) (by decide) rfl (congrArg va_rf hb) fl_Name_18 dX3_byteAt_6 ?_
    refine sp_arraylength X (pc := 9) (a := b) rfl (by omega) dX3_byteAt_9 ?_
    rw [show (Int32.ofNat (m.ln b)) = nI (m.ln b) from rfl]
    refine sp_icmp_ge X (pc := 10) (tgt := 22) dX3_byteAt_10 (by decide) (fun hb10 => ?_) (fun hb10 => ?_)
    · refine sp_iconst X (pc := 22) (v := (-1)) dX3_byteAt_22 (by decide) ?_
      refine sp_ireturn X (pc := 23) dX3_byteAt_23 rfl ⟨_, rfl, ?_⟩
      refine ⟨?_, rfl⟩
      first
        | exact Or.inl ⟨hin, rfl⟩
        | exact Or.inr ⟨fun q => q (Or.inl hb1), rfl⟩
        | (refine Or.inr ⟨fun q => q (Or.inr ?_), rfl⟩
           obtain ⟨j, hj, rfl⟩ := nI_of hb1
           rw [nI_clamp hj]
           exact (nI_leI (by omega) hj).mp hb10)
    · refine sp_aload_n X (pc := 13) (r := some a) dX3_byteAt_13 rfl rfl ?_
      refine sp_getfield X (pc := 14) (c := 4) (i := 0) (t := 2) (a := a) (v := va_rf (some b)) rfl (by first | assumption | omega) (by decide) rfl (congrArg va_rf hb) fl_Name_18 dX3_byteAt_14 ?_
      refine sp_iload_n X (pc := 17) (x := i) dX3_byteAt_17 rfl rfl ?_
      have hin : vp_in i (m.ln b) := by
        rintro (q | q)
        · exact hb1 q
        · exact hb10 (by
            obtain ⟨j, hj, rfl⟩ := nI_of hb1
            rw [nI_clamp hj] at q
            exact nI_le q hj)
      refine sp_iaload X (pc := 18) (a := b) rfl (by first | exact Or.inl (by assumption) | exact Or.inr (by assumption) | assumption) hin dX3_byteAt_18 ?_
      refine sp_goto X (pc := 19) (tgt := 23) dX3_byteAt_19 (by decide) ?_
      refine sp_ireturn X (pc := 23) dX3_byteAt_23 rfl ⟨_, rfl, ?_⟩
      refine ⟨?_, rfl⟩
      first
        | exact Or.inl ⟨hin, rfl⟩
        | exact Or.inr ⟨fun q => q (Or.inl hb1), rfl⟩
        | (refine Or.inr ⟨fun q => q (Or.inr ?_), rfl⟩
           obtain ⟨j, hj, rfl⟩ := nI_of hb1
           rw [nI_clamp hj]
           exact (nI_leI (by omega) hj).mp hb10)
set_option maxRecDepth 20000 in
theorem c_Name_isStay (l : Launch) (G : sp_G) (m : sp_M) {a b s : Nat} (h : sp_nm m a b s) : sp_C l G M_Name_isStay 0 0 [.ref a] m (sp_oI fun v m' => sp_bo v (m.ln b = 1 ∧ m.aI b 0 = 46) ∧ m' = m) := by
  refine sp_enter (lv0 := [(0, false, va_rf (some a))]) "SafePaths$Name" false rfl (by decide) (fun h => by cases h) (Nat.le_of_ble_eq_true rfl) rfl ?_
  intro w X
  have hnm := h
  obtain ⟨ha, hb, hs, htb, hts, hls, hl⟩ := h
  refine sp_aload_n X (pc := 0) (r := some a) dX3_isStay_0 rfl rfl ?_
  refine sp_getfield X (pc := 1) (c := 4) (i := 0) (t := 2) (a := a) (v := va_rf (some b)) rfl (by first | assumption | omega) (by decide) rfl (congrArg va_rf hb) fl_Name_18 dX3_isStay_1 ?_
  refine sp_arraylength X (pc := 4) (a := b) rfl (by omega) dX3_isStay_4 ?_
  rw [show (Int32.ofNat (m.ln b)) = nI (m.ln b) from rfl]
  refine sp_iconst X (pc := 5) (v := 1) dX3_isStay_5 (by decide) ?_
  refine sp_icmp_ne X (pc := 6) (tgt := 24) dX3_isStay_6 (by decide) (fun hb6 => ?_) (fun hb6 => ?_)
  · have h2 : ¬ m.ln b = 1 := fun q => hb6 (by rw [q]; rfl)
    refine sp_iconst X (pc := 24) (v := 0) dX3_isStay_24 (by decide) ?_
    refine sp_ireturn X (pc := 25) dX3_isStay_25 rfl ⟨_, rfl, ?_⟩
    first
      | exact ⟨sp_bo.f (fun q => h2 q.1), rfl⟩
      | exact ⟨sp_bo.f (fun q => hb17 q.2), rfl⟩
      | exact ⟨sp_bo.t ⟨h2, hb17⟩, rfl⟩
  · have h2 : m.ln b = 1 := sp_neq (b := 1) hb6 (by omega) (by omega)
    refine sp_aload_n X (pc := 9) (r := some a) dX3_isStay_9 rfl rfl ?_
    refine sp_getfield X (pc := 10) (c := 4) (i := 0) (t := 2) (a := a) (v := va_rf (some b)) rfl (by first | assumption | omega) (by decide) rfl (congrArg va_rf hb) fl_Name_18 dX3_isStay_10 ?_
    refine sp_iconst X (pc := 13) (v := 0) dX3_isStay_13 (by decide) ?_
    refine sp_iaload X (pc := 14) (a := b) rfl (by first | exact Or.inl (by assumption) | exact Or.inr (by assumption) | assumption) (by rw [h2]; exact vp_in_nI (n := 0) (by omega) (by omega)) dX3_isStay_14 ?_
    refine sp_bipush X (pc := 15) (v := 46) dX3_isStay_15 (by decide) ?_
    refine sp_icmp_ne X (pc := 17) (tgt := 24) dX3_isStay_17 (by decide) (fun hb17 => ?_) (fun hb17 => ?_)
    · refine sp_iconst X (pc := 24) (v := 0) dX3_isStay_24 (by decide) ?_
      refine sp_ireturn X (pc := 25) dX3_isStay_25 rfl ⟨_, rfl, ?_⟩
      first
        | exact ⟨sp_bo.f (fun q => h2 q.1), rfl⟩
        | exact ⟨sp_bo.f (fun q => hb17 q.2), rfl⟩
        | exact ⟨sp_bo.t ⟨h2, hb17⟩, rfl⟩
    · refine sp_iconst X (pc := 20) (v := 1) dX3_isStay_20 (by decide) ?_
      refine sp_goto X (pc := 21) (tgt := 25) dX3_isStay_21 (by decide) ?_
      refine sp_ireturn X (pc := 25) dX3_isStay_25 rfl ⟨_, rfl, ?_⟩
      first
        | exact ⟨sp_bo.f (fun q => h2 q.1), rfl⟩
        | exact ⟨sp_bo.f (fun q => hb17 q.2), rfl⟩
        | exact ⟨sp_bo.t ⟨h2, hb17⟩, rfl⟩
set_option maxRecDepth 20000 in
theorem c_Name_isUp (l : Launch) (G : sp_G) (m : sp_M) {a b s : Nat} (h : sp_nm m a b s) : sp_C l G M_Name_isUp 0 0 [.ref a] m (sp_oI fun v m' => sp_bo v (sp_isUp m b) ∧ m' = m) := by
  refine sp_enter (lv0 := [(0, false, va_rf (some a))]) "SafePaths$Name" false rfl (by decide) (fun h => by cases h) (Nat.le_of_ble_eq_true rfl) rfl ?_
  intro w X
  have hnm := h
  obtain ⟨ha, hb, hs, htb, hts, hls, hl⟩ := h
  refine sp_aload_n X (pc := 0) (r := some a) dX3_isUp_0 rfl rfl ?_
  refine sp_getfield X (pc := 1) (c := 4) (i := 0) (t := 2) (a := a) (v := va_rf (some b)) rfl (by first | assumption | omega) (by decide) rfl (congrArg va_rf hb) fl_Name_18 dX3_isUp_1 ?_
  refine sp_arraylength X (pc := 4) (a := b) rfl (by omega) dX3_isUp_4 ?_
  rw [show (Int32.ofNat (m.ln b)) = nI (m.ln b) from rfl]
  refine sp_iconst X (pc := 5) (v := 2) dX3_isUp_5 (by decide) ?_
  refine sp_icmp_ne X (pc := 6) (tgt := 35) dX3_isUp_6 (by decide) (fun hb6 => ?_) (fun hb6 => ?_)
  · have h2 : ¬ m.ln b = 2 := fun q => hb6 (by rw [q]; rfl)
    refine sp_iconst X (pc := 35) (v := 0) dX3_isUp_35 (by decide) ?_
    refine sp_ireturn X (pc := 36) dX3_isUp_36 rfl ⟨_, rfl, ?_⟩
    first
      | exact ⟨sp_bo.f (fun q => h2 q.1), rfl⟩
      | exact ⟨sp_bo.t ⟨h2, hb17, hb28⟩, rfl⟩
      | exact ⟨sp_bo.f (fun q => hb28 q.2.2), rfl⟩
      | exact ⟨sp_bo.f (fun q => hb17 q.2.1), rfl⟩
  · have h2 : m.ln b = 2 := sp_neq (b := 2) hb6 (by omega) (by omega)
    refine sp_aload_n X (pc := 9) (r := some a) dX3_isUp_9 rfl rfl ?_
    refine sp_getfield X (pc := 10) (c := 4) (i := 0) (t := 2) (a := a) (v := va_rf (some b)) rfl (by first | assumption | omega) (by decide) rfl (congrArg va_rf hb) fl_Name_18 dX3_isUp_10 ?_
    refine sp_iconst X (pc := 13) (v := 0) dX3_isUp_13 (by decide) ?_
    refine sp_iaload X (pc := 14) (a := b) rfl (by first | exact Or.inl (by assumption) | exact Or.inr (by assumption) | assumption) (by rw [h2]; exact vp_in_nI (n := 0) (by omega) (by omega)) dX3_isUp_14 ?_
    refine sp_bipush X (pc := 15) (v := 46) dX3_isUp_15 (by decide) ?_
    refine sp_icmp_ne X (pc := 17) (tgt := 35) dX3_isUp_17 (by decide) (fun hb17 => ?_) (fun hb17 => ?_)
    · refine sp_iconst X (pc := 35) (v := 0) dX3_isUp_35 (by decide) ?_
      refine sp_ireturn X (pc := 36) dX3_isUp_36 rfl ⟨_, rfl, ?_⟩
      first
        | exact ⟨sp_bo.f (fun q => h2 q.1), rfl⟩
        | exact ⟨sp_bo.t ⟨h2, hb17, hb28⟩, rfl⟩
        | exact ⟨sp_bo.f (fun q => hb28 q.2.2), rfl⟩
        | exact ⟨sp_bo.f (fun q => hb17 q.2.1), rfl⟩
    · refine sp_aload_n X (pc := 20) (r := some a) dX3_isUp_20 rfl rfl ?_
      refine sp_getfield X (pc := 21) (c := 4) (i := 0) (t := 2) (a := a) (v := va_rf (some b)) rfl (by first | assumption | omega) (by decide) rfl (congrArg va_rf hb) fl_Name_18 dX3_isUp_21 ?_
      refine sp_iconst X (pc := 24) (v := 1) dX3_isUp_24 (by decide) ?_
      refine sp_iaload X (pc := 25) (a := b) rfl (by first | exact Or.inl (by assumption) | exact Or.inr (by assumption) | assumption) (by rw [h2]; exact vp_in_nI (n := 1) (by omega) (by omega)) dX3_isUp_25 ?_
      refine sp_bipush X (pc := 26) (v := 46) dX3_isUp_26 (by decide) ?_
      refine sp_icmp_ne X (pc := 28) (tgt := 35) dX3_isUp_28 (by decide) (fun hb28 => ?_) (fun hb28 => ?_)
      · refine sp_iconst X (pc := 35) (v := 0) dX3_isUp_35 (by decide) ?_
        refine sp_ireturn X (pc := 36) dX3_isUp_36 rfl ⟨_, rfl, ?_⟩
        first
          | exact ⟨sp_bo.f (fun q => h2 q.1), rfl⟩
          | exact ⟨sp_bo.t ⟨h2, hb17, hb28⟩, rfl⟩
          | exact ⟨sp_bo.f (fun q => hb28 q.2.2), rfl⟩
          | exact ⟨sp_bo.f (fun q => hb17 q.2.1), rfl⟩
      · refine sp_iconst X (pc := 31) (v := 1) dX3_isUp_31 (by decide) ?_
        refine sp_goto X (pc := 32) (tgt := 36) dX3_isUp_32 (by decide) ?_
        refine sp_ireturn X (pc := 36) dX3_isUp_36 rfl ⟨_, rfl, ?_⟩
        first
          | exact ⟨sp_bo.f (fun q => h2 q.1), rfl⟩
          | exact ⟨sp_bo.t ⟨h2, hb17, hb28⟩, rfl⟩
          | exact ⟨sp_bo.f (fun q => hb28 q.2.2), rfl⟩
          | exact ⟨sp_bo.f (fun q => hb17 q.2.1), rfl⟩
set_option maxRecDepth 20000 in
theorem c_Name_isEqual (l : Launch) (G : sp_G) (m : sp_M) {a b : Nat} (hta : m.ty a = 20) (htb : m.ty b = 20) (hla : m.ln a ≤ 160) (hlb : m.ln b ≤ 160) : sp_C l G M_Name_isEqual 0 0 [.ref a, .ref b] m (sp_oI fun v m' => sp_bo v (sp_eqA m a b) ∧ m' = m) := by
  refine sp_enter (lv0 := [(0, false, va_rf (some a)), (1, false, va_rf (some b))]) "SafePaths$Name" false rfl (by decide) (fun h => by cases h) (Nat.le_of_ble_eq_true rfl) rfl ?_
  intro w X
  refine sp_aload_n X (pc := 0) (r := some a) dX3_isEqual_0 rfl rfl ?_
  refine sp_arraylength X (pc := 1) (a := a) rfl (by omega) dX3_isEqual_1 ?_
  rw [show (Int32.ofNat (m.ln a)) = nI (m.ln a) from rfl]
  refine sp_aload_n X (pc := 2) (r := some b) dX3_isEqual_2 rfl rfl ?_
  refine sp_arraylength X (pc := 3) (a := b) rfl (by omega) dX3_isEqual_3 ?_
  rw [show (Int32.ofNat (m.ln b)) = nI (m.ln b) from rfl]
  refine sp_icmp_eq X (pc := 4) (tgt := 9) dX3_isEqual_4 (by decide) (fun hb4 => ?_) (fun hb4 => ?_)
  · have hab : m.ln a = m.ln b := sp_neq hb4 (by omega) (by omega)
    refine sp_iconst X (pc := 9) (v := 0) dX3_isEqual_9 (by decide) ?_
    refine sp_istore_n X (pc := 10) (lv' := [(2, false, .int 0), (0, false, va_rf (some a)), (1, false, va_rf (some b))]) dX3_isEqual_10 rfl (by decide) rfl ?_
    have loop11 : ∀ (dz : Nat) (i : Nat), i ≤ m.ln a → (∀ j, j < i → m.aI a j = m.aI b j) → m.ln a - i = dz → w 0 0 m 11 [(0, false, va_rf (some a)), (1, false, va_rf (some b)), (2, false, .int (nI i))] [] := by
      intro dz
      induction dz using Nat.strongRecOn with
      | ind dz ih =>
        intro i hi0 hall hdz
        refine sp_iload_n X (pc := 11) (x := nI i) dX3_isEqual_11 rfl rfl ?_
        refine sp_aload_n X (pc := 12) (r := some a) dX3_isEqual_12 rfl rfl ?_
        refine sp_arraylength X (pc := 13) (a := a) rfl (by omega) dX3_isEqual_13 ?_
        rw [show (Int32.ofNat (m.ln a)) = nI (m.ln a) from rfl]
        refine sp_icmp_ge X (pc := 14) (tgt := 34) dX3_isEqual_14 (by decide) (fun hb14 => ?_) (fun hb14 => ?_)
        · have hi : m.ln a ≤ i := sp_nge hb14 (by omega) (by omega)
          refine sp_iconst X (pc := 34) (v := 1) dX3_isEqual_34 (by decide) ?_
          refine sp_ireturn X (pc := 35) dX3_isEqual_35 rfl ⟨_, rfl, ?_⟩
          exact ⟨sp_bo.t ⟨hab, fun j hj => hall j (by omega)⟩, rfl⟩
        · have hi : i < m.ln a := sp_nlt hb14 (by omega)
          refine sp_aload_n X (pc := 17) (r := some a) dX3_isEqual_17 rfl rfl ?_
          refine sp_iload_n X (pc := 18) (x := nI i) dX3_isEqual_18 rfl rfl ?_
          refine sp_iaload X (pc := 19) (a := a) rfl (by first | exact Or.inl (by assumption) | exact Or.inr (by assumption) | assumption) (vp_in_nI hi (by omega)) dX3_isEqual_19 ?_
          rw [show (m.aI a (nI i).toNatClampNeg) = m.aI a i from (by rw [nI_clamp (by omega)])]
          refine sp_aload_n X (pc := 20) (r := some b) dX3_isEqual_20 rfl rfl ?_
          refine sp_iload_n X (pc := 21) (x := nI i) dX3_isEqual_21 rfl rfl ?_
          refine sp_iaload X (pc := 22) (a := b) rfl (by first | exact Or.inl (by assumption) | exact Or.inr (by assumption) | assumption) (vp_in_nI (by omega) (by omega)) dX3_isEqual_22 ?_
          rw [show (m.aI b (nI i).toNatClampNeg) = m.aI b i from (by rw [nI_clamp (by omega)])]
          refine sp_icmp_eq X (pc := 23) (tgt := 28) dX3_isEqual_23 (by decide) (fun hb23 => ?_) (fun hb23 => ?_)
          · refine sp_iinc X (pc := 28) (v := nI (i + 1)) (lv' := [(2, false, .int (nI (i + 1))), (0, false, va_rf (some a)), (1, false, va_rf (some b))]) dX3_isEqual_28 rfl (nI_1 i) (by decide) rfl ?_
            refine sp_goto X (pc := 31) (tgt := 11) dX3_isEqual_31 (by decide) ?_
            refine sp_pick X [1, 2, 0] (lv' := [(0, false, va_rf (some a)), (1, false, va_rf (some b)), (2, false, .int (nI (i + 1)))]) rfl ?_
            refine ih (m.ln a - (i + 1)) (by omega) (i + 1) (by omega) (fun j hj => ?_) rfl
            rcases Nat.lt_or_ge j i with z | z
            · exact hall j z
            · rw [show j = i by omega]; exact hb23
          · refine sp_iconst X (pc := 26) (v := 0) dX3_isEqual_26 (by decide) ?_
            refine sp_ireturn X (pc := 27) dX3_isEqual_27 rfl ⟨_, rfl, ?_⟩
            exact ⟨sp_bo.f (fun q => hb23 (q.2 i hi)), rfl⟩
    refine sp_pick X [1, 2, 0] (lv' := [(0, false, va_rf (some a)), (1, false, va_rf (some b)), (2, false, .int 0)]) rfl ?_
    exact loop11 _ 0 (Nat.zero_le _) (fun j hj => absurd hj (by omega)) rfl
  · have hab : ¬ m.ln a = m.ln b := fun q => hb4 (by rw [q])
    refine sp_iconst X (pc := 7) (v := 0) dX3_isEqual_7 (by decide) ?_
    refine sp_ireturn X (pc := 8) dX3_isEqual_8 rfl ⟨_, rfl, ?_⟩
    exact ⟨sp_bo.f (fun q => hab q.1), rfl⟩
set_option maxRecDepth 20000 in
theorem c_Name_isSameAs (l : Launch) (G : sp_G) (m : sp_M) {a b s : Nat} (h : sp_nm m a b s) {a2 c d : Nat} (h2 : sp_nm m a2 c d) : sp_C l G M_Name_isSameAs 0 0 [.ref a, .ref a2] m (sp_oI fun v m' => sp_bo v (sp_eqA m b c) ∧ m' = m) := by
  refine sp_enter (lv0 := [(0, false, va_rf (some a)), (1, false, va_rf (some a2))]) "SafePaths$Name" false rfl (by decide) (fun h => by cases h) (Nat.le_of_ble_eq_true rfl) rfl ?_
  intro w X
  have hnm := h
  obtain ⟨ha, hb, hs, htb, hts, hls, hl⟩ := h
  obtain ⟨ha2, hc, hd2, htc, htd, hlc, hl2⟩ := h2
  refine sp_aload_n X (pc := 0) (r := some a) dX3_isSameAs_0 rfl rfl ?_
  refine sp_getfield X (pc := 1) (c := 4) (i := 0) (t := 2) (a := a) (v := va_rf (some b)) rfl (by first | assumption | omega) (by decide) rfl (congrArg va_rf hb) fl_Name_18 dX3_isSameAs_1 ?_
  refine sp_aload_n X (pc := 4) (r := some a2) dX3_isSameAs_4 rfl rfl ?_
  refine sp_getfield X (pc := 5) (c := 4) (i := 0) (t := 2) (a := a2) (v := va_rf (some c)) rfl (by first | assumption | omega) (by decide) rfl (congrArg va_rf hc) fl_Name_18 dX3_isSameAs_5 ?_
  refine sp_callS X (pc := 8) (mc := 0) (ms := 0) (As := [va_rf (some b), va_rf (some c)]) (rest := []) (c_Name_isEqual l G _ htb htc (by omega) (by omega)) ok_Name_isEqual lk_Name_31 rfl rfl (Nat.zero_le _) (Nat.le_of_ble_eq_true rfl) (Nat.le_of_ble_eq_true rfl) (Nat.zero_le _) (Nat.zero_le _) dX3_isSameAs_8 (sp_kI fun v8 m8 hp8 => ?_)
  obtain ⟨hp8, hp8m⟩ := hp8; replace hp8m := (hp8m).symm; subst hp8m
  refine sp_ireturn X (pc := 11) dX3_isSameAs_11 hp8.nar ⟨_, rfl, ?_⟩
  exact ⟨hp8, rfl⟩
set_option maxRecDepth 20000 in
theorem c_Name_isAlike (l : Launch) (G : sp_G) (m : sp_M) {a b s : Nat} (h : sp_nm m a b s) {a2 c d : Nat} (h2 : sp_nm m a2 c d) : sp_C l G M_Name_isAlike 0 0 [.ref a, .ref a2] m (sp_oI fun v m' => sp_bo v (sp_eqA m s d) ∧ m' = m) := by
  refine sp_enter (lv0 := [(0, false, va_rf (some a)), (1, false, va_rf (some a2))]) "SafePaths$Name" false rfl (by decide) (fun h => by cases h) (Nat.le_of_ble_eq_true rfl) rfl ?_
  intro w X
  have hnm := h
  obtain ⟨ha, hb, hs, htb, hts, hls, hl⟩ := h
  obtain ⟨ha2, hc, hd2, htc, htd, hlc, hl2⟩ := h2
  refine sp_aload_n X (pc := 0) (r := some a) dX3_isAlike_0 rfl rfl ?_
  refine sp_getfield X (pc := 1) (c := 4) (i := 1) (t := 2) (a := a) (v := va_rf (some s)) rfl (by first | assumption | omega) (by decide) rfl (congrArg va_rf hs) fl_Name_24 dX3_isAlike_1 ?_
  refine sp_aload_n X (pc := 4) (r := some a2) dX3_isAlike_4 rfl rfl ?_
  refine sp_getfield X (pc := 5) (c := 4) (i := 1) (t := 2) (a := a2) (v := va_rf (some d)) rfl (by first | assumption | omega) (by decide) rfl (congrArg va_rf hd2) fl_Name_24 dX3_isAlike_5 ?_
  refine sp_callS X (pc := 8) (mc := 0) (ms := 0) (As := [va_rf (some s), va_rf (some d)]) (rest := []) (c_Name_isEqual l G _ hts htd (by omega) (by omega)) ok_Name_isEqual lk_Name_31 rfl rfl (Nat.zero_le _) (Nat.le_of_ble_eq_true rfl) (Nat.le_of_ble_eq_true rfl) (Nat.zero_le _) (Nat.zero_le _) dX3_isAlike_8 (sp_kI fun v8 m8 hp8 => ?_)
  obtain ⟨hp8, hp8m⟩ := hp8; replace hp8m := (hp8m).symm; subst hp8m
  refine sp_ireturn X (pc := 11) dX3_isAlike_11 hp8.nar ⟨_, rfl, ?_⟩
  exact ⟨hp8, rfl⟩
set_option maxRecDepth 20000 in
theorem c_Name_hasControlByte (l : Launch) (G : sp_G) (m : sp_M) {a b s : Nat} (h : sp_nm m a b s) : sp_C l G M_Name_hasControlByte 0 0 [.ref a] m (sp_oI fun v m' => sp_bo v (sp_ctl m b) ∧ m' = m) := by
  refine sp_enter (lv0 := [(0, false, va_rf (some a))]) "SafePaths$Name" false rfl (by decide) (fun h => by cases h) (Nat.le_of_ble_eq_true rfl) rfl ?_
  intro w X
  have hnm := h
  obtain ⟨ha, hb, hs, htb, hts, hls, hl⟩ := h
  refine sp_iconst X (pc := 0) (v := 0) dX3_hasControlByte_0 (by decide) ?_
  refine sp_istore_n X (pc := 1) (lv' := [(1, false, .int 0), (0, false, va_rf (some a))]) dX3_hasControlByte_1 rfl (by decide) rfl ?_
  have loop2 : ∀ (dz : Nat) (i : Nat), i ≤ m.ln b → (∀ j, j < i → ¬ (m.aI b j < 32 ∨ m.aI b j = 127)) → m.ln b - i = dz → w 0 0 m 2 [(0, false, va_rf (some a)), (1, false, .int (nI i))] [] := by
    intro dz
    induction dz using Nat.strongRecOn with
    | ind dz ih =>
      intro i hi0 hall hdz
      refine sp_iload_n X (pc := 2) (x := nI i) dX3_hasControlByte_2 rfl rfl ?_
      refine sp_aload_n X (pc := 3) (r := some a) dX3_hasControlByte_3 rfl rfl ?_
      refine sp_getfield X (pc := 4) (c := 4) (i := 0) (t := 2) (a := a) (v := va_rf (some b)) rfl (by first | assumption | omega) (by decide) rfl (congrArg va_rf hb) fl_Name_18 dX3_hasControlByte_4 ?_
      refine sp_arraylength X (pc := 7) (a := b) rfl (by omega) dX3_hasControlByte_7 ?_
      rw [show (Int32.ofNat (m.ln b)) = nI (m.ln b) from rfl]
      refine sp_icmp_ge X (pc := 8) (tgt := 41) dX3_hasControlByte_8 (by decide) (fun hb8 => ?_) (fun hb8 => ?_)
      · have hi : m.ln b ≤ i := sp_nge hb8 (by omega) (by omega)
        refine sp_iconst X (pc := 41) (v := 0) dX3_hasControlByte_41 (by decide) ?_
        refine sp_ireturn X (pc := 42) dX3_hasControlByte_42 rfl ⟨_, rfl, ?_⟩
        exact ⟨sp_bo.f (fun ⟨j, h1, h2⟩ => hall j (by omega) h2), rfl⟩
      · have hi : i < m.ln b := sp_nlt hb8 (by omega)
        refine sp_aload_n X (pc := 11) (r := some a) dX3_hasControlByte_11 rfl rfl ?_
        refine sp_getfield X (pc := 12) (c := 4) (i := 0) (t := 2) (a := a) (v := va_rf (some b)) rfl (by first | assumption | omega) (by decide) rfl (congrArg va_rf hb) fl_Name_18 dX3_hasControlByte_12 ?_
        refine sp_iload_n X (pc := 15) (x := nI i) dX3_hasControlByte_15 rfl rfl ?_
        refine sp_iaload X (pc := 16) (a := b) rfl (by first | exact Or.inl (by assumption) | exact Or.inr (by assumption) | assumption) (vp_in_nI hi (by omega)) dX3_hasControlByte_16 ?_
        rw [show (m.aI b (nI i).toNatClampNeg) = m.aI b i from (by rw [nI_clamp (by omega)])]
        refine sp_bipush X (pc := 17) (v := 32) dX3_hasControlByte_17 (by decide) ?_
        refine sp_icmp_lt X (pc := 19) (tgt := 33) dX3_hasControlByte_19 (by decide) (fun hb19 => ?_) (fun hb19 => ?_)
        · refine sp_iconst X (pc := 33) (v := 1) dX3_hasControlByte_33 (by decide) ?_
          refine sp_ireturn X (pc := 34) dX3_hasControlByte_34 rfl ⟨_, rfl, ?_⟩
          first
            | exact ⟨sp_bo.t ⟨i, hi, Or.inl hb19⟩, rfl⟩
            | exact ⟨sp_bo.t ⟨i, hi, Or.inr hb30⟩, rfl⟩
        · refine sp_aload_n X (pc := 22) (r := some a) dX3_hasControlByte_22 rfl rfl ?_
          refine sp_getfield X (pc := 23) (c := 4) (i := 0) (t := 2) (a := a) (v := va_rf (some b)) rfl (by first | assumption | omega) (by decide) rfl (congrArg va_rf hb) fl_Name_18 dX3_hasControlByte_23 ?_
          refine sp_iload_n X (pc := 26) (x := nI i) dX3_hasControlByte_26 rfl rfl ?_
          refine sp_iaload X (pc := 27) (a := b) rfl (by first | exact Or.inl (by assumption) | exact Or.inr (by assumption) | assumption) (vp_in_nI hi (by omega)) dX3_hasControlByte_27 ?_
          rw [show (m.aI b (nI i).toNatClampNeg) = m.aI b i from (by rw [nI_clamp (by omega)])]
          refine sp_bipush X (pc := 28) (v := 127) dX3_hasControlByte_28 (by decide) ?_
          refine sp_icmp_ne X (pc := 30) (tgt := 35) dX3_hasControlByte_30 (by decide) (fun hb30 => ?_) (fun hb30 => ?_)
          · refine sp_iinc X (pc := 35) (v := nI (i + 1)) (lv' := [(1, false, .int (nI (i + 1))), (0, false, va_rf (some a))]) dX3_hasControlByte_35 rfl (nI_1 i) (by decide) rfl ?_
            refine sp_goto X (pc := 38) (tgt := 2) dX3_hasControlByte_38 (by decide) ?_
            refine sp_pick X [1, 0] (lv' := [(0, false, va_rf (some a)), (1, false, .int (nI (i + 1)))]) rfl ?_
            refine ih (m.ln b - (i + 1)) (by omega) (i + 1) (by omega) (fun j hj => ?_) rfl
            rcases Nat.lt_or_ge j i with z | z
            · exact hall j z
            · rw [show j = i by omega]
              rintro (q | q)
              · exact hb19 q
              · exact hb30 q
          · refine sp_iconst X (pc := 33) (v := 1) dX3_hasControlByte_33 (by decide) ?_
            refine sp_ireturn X (pc := 34) dX3_hasControlByte_34 rfl ⟨_, rfl, ?_⟩
            first
              | exact ⟨sp_bo.t ⟨i, hi, Or.inl hb19⟩, rfl⟩
              | exact ⟨sp_bo.t ⟨i, hi, Or.inr hb30⟩, rfl⟩
  refine sp_pick X [1, 0] (lv' := [(0, false, va_rf (some a)), (1, false, .int 0)]) rfl ?_
  exact loop2 _ 0 (Nat.zero_le _) (fun j hj => absurd hj (by omega)) rfl
set_option maxRecDepth 20000 in
theorem c_Name_lengthToFirstDot (l : Launch) (G : sp_G) (m : sp_M) {a b s : Nat} (h : sp_nm m a b s) : sp_C l G M_Name_lengthToFirstDot 0 0 [.ref a] m (sp_oI fun v m' => (∃ t, v = nI t ∧ sp_stem m b t) ∧ m' = m) := by
  refine sp_enter (lv0 := [(0, false, va_rf (some a))]) "SafePaths$Name" false rfl (by decide) (fun h => by cases h) (Nat.le_of_ble_eq_true rfl) rfl ?_
  intro w X
  have hnm := h
  obtain ⟨ha, hb, hs, htb, hts, hls, hl⟩ := h
  refine sp_iconst X (pc := 0) (v := 0) dX3_lengthToFirstDot_0 (by decide) ?_
  refine sp_istore_n X (pc := 1) (lv' := [(1, false, .int 0), (0, false, va_rf (some a))]) dX3_lengthToFirstDot_1 rfl (by decide) rfl ?_
  have loop2 : ∀ (dz : Nat) (i : Nat), i ≤ m.ln b → (∀ j, j < i → ¬ m.aI b j = 46) → m.ln b - i = dz → w 0 0 m 2 [(0, false, va_rf (some a)), (1, false, .int (nI i))] [] := by
    intro dz
    induction dz using Nat.strongRecOn with
    | ind dz ih =>
      intro i hi0 hall hdz
      refine sp_iload_n X (pc := 2) (x := nI i) dX3_lengthToFirstDot_2 rfl rfl ?_
      refine sp_aload_n X (pc := 3) (r := some a) dX3_lengthToFirstDot_3 rfl rfl ?_
      refine sp_getfield X (pc := 4) (c := 4) (i := 0) (t := 2) (a := a) (v := va_rf (some b)) rfl (by first | assumption | omega) (by decide) rfl (congrArg va_rf hb) fl_Name_18 dX3_lengthToFirstDot_4 ?_
      refine sp_arraylength X (pc := 7) (a := b) rfl (by omega) dX3_lengthToFirstDot_7 ?_
      rw [show (Int32.ofNat (m.ln b)) = nI (m.ln b) from rfl]
      refine sp_icmp_ge X (pc := 8) (tgt := 28) dX3_lengthToFirstDot_8 (by decide) (fun hb8 => ?_) (fun hb8 => ?_)
      · have hi : m.ln b ≤ i := sp_nge hb8 (by omega) (by omega)
        refine sp_iload_n X (pc := 28) (x := nI i) dX3_lengthToFirstDot_28 rfl rfl ?_
        refine sp_ireturn X (pc := 29) dX3_lengthToFirstDot_29 rfl ⟨_, rfl, ?_⟩
        first
          | exact ⟨⟨i, rfl, hi0, hall, fun _ => hb19⟩, rfl⟩
          | exact ⟨⟨i, rfl, hi0, hall, fun q => absurd q (by omega)⟩, rfl⟩
      · have hi : i < m.ln b := sp_nlt hb8 (by omega)
        refine sp_aload_n X (pc := 11) (r := some a) dX3_lengthToFirstDot_11 rfl rfl ?_
        refine sp_getfield X (pc := 12) (c := 4) (i := 0) (t := 2) (a := a) (v := va_rf (some b)) rfl (by first | assumption | omega) (by decide) rfl (congrArg va_rf hb) fl_Name_18 dX3_lengthToFirstDot_12 ?_
        refine sp_iload_n X (pc := 15) (x := nI i) dX3_lengthToFirstDot_15 rfl rfl ?_
        refine sp_iaload X (pc := 16) (a := b) rfl (by first | exact Or.inl (by assumption) | exact Or.inr (by assumption) | assumption) (vp_in_nI hi (by omega)) dX3_lengthToFirstDot_16 ?_
        rw [show (m.aI b (nI i).toNatClampNeg) = m.aI b i from (by rw [nI_clamp (by omega)])]
        refine sp_bipush X (pc := 17) (v := 46) dX3_lengthToFirstDot_17 (by decide) ?_
        refine sp_icmp_eq X (pc := 19) (tgt := 28) dX3_lengthToFirstDot_19 (by decide) (fun hb19 => ?_) (fun hb19 => ?_)
        · refine sp_iload_n X (pc := 28) (x := nI i) dX3_lengthToFirstDot_28 rfl rfl ?_
          refine sp_ireturn X (pc := 29) dX3_lengthToFirstDot_29 rfl ⟨_, rfl, ?_⟩
          first
            | exact ⟨⟨i, rfl, hi0, hall, fun _ => hb19⟩, rfl⟩
            | exact ⟨⟨i, rfl, hi0, hall, fun q => absurd q (by omega)⟩, rfl⟩
        · refine sp_iinc X (pc := 22) (v := nI (i + 1)) (lv' := [(1, false, .int (nI (i + 1))), (0, false, va_rf (some a))]) dX3_lengthToFirstDot_22 rfl (nI_1 i) (by decide) rfl ?_
          refine sp_goto X (pc := 25) (tgt := 2) dX3_lengthToFirstDot_25 (by decide) ?_
          refine sp_pick X [1, 0] (lv' := [(0, false, va_rf (some a)), (1, false, .int (nI (i + 1)))]) rfl ?_
          refine ih (m.ln b - (i + 1)) (by omega) (i + 1) (by omega) (fun j hj => ?_) rfl
          rcases Nat.lt_or_ge j i with z | z
          · exact hall j z
          · rw [show j = i by omega]; exact hb19
  refine sp_pick X [1, 0] (lv' := [(0, false, va_rf (some a)), (1, false, .int 0)]) rfl ?_
  exact loop2 _ 0 (Nat.zero_le _) (fun j hj => absurd hj (by omega)) rfl
