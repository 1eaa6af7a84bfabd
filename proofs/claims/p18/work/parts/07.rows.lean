/-! ROWS: a walk is an abstract w k n m pc locals stack (k cells and n slots are left, m the memory) -/
abbrev sp_L : Type := List (Nat × Bool × Value)
def sp_lk : sp_L → Nat → Option Value
  | [], _ => none
  | q :: r, k => bif Nat.beq q.1 k then some q.2.2 else sp_lk r k
def sp_st (lv : sp_L) (i : Nat) : sp_L := lv.filter (fun q => !(Nat.beq q.1 i) && !(Nat.beq (q.1 + 1) i && q.2.1))
def sp_st2 (lv : sp_L) (i : Nat) : sp_L := lv.filter (fun q => !(Nat.beq q.1 i) && (!(Nat.beq q.1 (i + 1)) && !(Nat.beq (q.1 + 1) i && q.2.1)))
def sp_lv (ls : Array Slot) (nL : Nat) (lv : sp_L) : Prop := lv_has ls nL (lv.map fun q => (q.1, q.2.2)) ∧ ∀ q ∈ lv, (q.2.1 = true ↔ q.2.2.category = 2)
theorem sp_lk_mem : ∀ {lv : sp_L} {k : Nat} {v : Value}, sp_lk lv k = some v → ∃ b, (k, b, v) ∈ lv
  | [], _, _, h => by cases h
  | q :: r, k, v, h => by
    unfold sp_lk at h
    cases hb : Nat.beq q.1 k with
    | true =>
      rw [hb] at h
      cases h
      have := Nat.eq_of_beq_eq_true hb
      subst this
      exact ⟨q.2.1, List.mem_cons_self⟩
    | false =>
      rw [hb] at h
      obtain ⟨b, hm⟩ := sp_lk_mem (lv := r) h
      exact ⟨b, List.mem_cons_of_mem _ hm⟩
theorem sp_lv_at {ls : Array Slot} {nL : Nat} {lv : sp_L} {k : Nat} {v : Value} (h : sp_lv ls nL lv) (hk : sp_lk lv k = some v) : ls[k]? = some (.val v) := by
  obtain ⟨b, hm⟩ := sp_lk_mem hk
  exact h.1.2.2 (k, v) (List.mem_map.mpr ⟨_, hm, rfl⟩)
theorem sp_lv_sub {ls : Array Slot} {nL : Nat} {lv lv' : sp_L} (h : sp_lv ls nL lv) (hs : ∀ q ∈ lv', q ∈ lv) : sp_lv ls nL lv' :=
  ⟨⟨h.1.1, h.1.2.1, fun q hq => by
    obtain ⟨x, hx, rfl⟩ := List.mem_map.mp hq
    exact h.1.2.2 _ (List.mem_map.mpr ⟨x, hs x hx, rfl⟩)⟩, fun q hq => h.2 q (hs q hq)⟩
theorem sp_lv_st {ls ls' : Array Slot} {nL : Nat} {lv : sp_L} {i : Nat} {v : Value} (h : sp_lv ls nL lv) (hc : v.category = 1) (h' : lv_has ls' nL ((i, v) :: (lv.map fun q => (q.1, q.2.2)).filter (fun q => !(q.1 == i) && !(q.1 + 1 == i && q.2.category == 2)))) : sp_lv ls' nL ((i, false, v) :: sp_st lv i) := by
  refine ⟨⟨h'.1, h'.2.1, fun q hq => ?_⟩, fun q hq => ?_⟩
  · rcases List.mem_cons.mp hq with rfl | hq
    · exact h'.2.2 _ List.mem_cons_self
    · obtain ⟨x, hx, rfl⟩ := List.mem_map.mp hq
      obtain ⟨hx1, hx2⟩ := List.mem_filter.mp hx
      refine h'.2.2 _ (List.mem_cons_of_mem _ (List.mem_filter.mpr ⟨List.mem_map.mpr ⟨x, hx1, rfl⟩, ?_⟩))
      have hcat := h.2 x hx1
      simp only [Bool.and_eq_true, Bool.not_eq_true', Nat.beq_eq_true_eq, Bool.and_eq_false_iff] at hx2 ⊢
      obtain ⟨a, b⟩ := hx2
      refine ⟨?_, ?_⟩
      · simp only [beq_eq_false_iff_ne, ne_eq]
        intro z
        rw [z] at a
        simp at a
      · rcases b with b | b
        · left
          simp only [beq_eq_false_iff_ne, ne_eq]
          intro z
          rw [z] at b
          simp at b
        · right
          simp only [beq_eq_false_iff_ne, ne_eq]
          intro z
          rw [hcat.mpr z] at b
          cases b
  · rcases List.mem_cons.mp hq with rfl | hq
    · simp [hc]
    · exact h.2 q (List.mem_filter.mp hq).1
theorem sp_lv_st2 {ls ls' : Array Slot} {nL : Nat} {lv : sp_L} {i : Nat} {v : Value} (h : sp_lv ls nL lv) (hc : v.category = 2) (h' : lv_has ls' nL ((i, v) :: (lv.map fun q => (q.1, q.2.2)).filter (fun q => !(q.1 == i) && (!(q.1 == i + 1) && !(q.1 + 1 == i && q.2.category == 2))))) : sp_lv ls' nL ((i, true, v) :: sp_st2 lv i) := by
  refine ⟨⟨h'.1, h'.2.1, fun q hq => ?_⟩, fun q hq => ?_⟩
  · rcases List.mem_cons.mp hq with rfl | hq
    · exact h'.2.2 _ List.mem_cons_self
    · obtain ⟨x, hx, rfl⟩ := List.mem_map.mp hq
      obtain ⟨hx1, hx2⟩ := List.mem_filter.mp hx
      refine h'.2.2 _ (List.mem_cons_of_mem _ (List.mem_filter.mpr ⟨List.mem_map.mpr ⟨x, hx1, rfl⟩, ?_⟩))
      have hcat := h.2 x hx1
      simp only [Bool.and_eq_true, Bool.not_eq_true', Nat.beq_eq_true_eq, Bool.and_eq_false_iff] at hx2 ⊢
      obtain ⟨a, a2, b⟩ := hx2
      refine ⟨?_, ?_, ?_⟩
      · simp only [beq_eq_false_iff_ne, ne_eq]
        intro z
        rw [z] at a
        simp at a
      · simp only [beq_eq_false_iff_ne, ne_eq]
        intro z
        rw [z] at a2
        simp at a2
      · rcases b with b | b
        · left
          simp only [beq_eq_false_iff_ne, ne_eq]
          intro z
          rw [z] at b
          simp at b
        · right
          simp only [beq_eq_false_iff_ne, ne_eq]
          intro z
          rw [hcat.mpr z] at b
          cases b
  · rcases List.mem_cons.mp hq with rfl | hq
    · simp [hc]
    · exact h.2 q (List.mem_filter.mp hq).1
theorem sp_cat_rf (r : Option Nat) : (va_rf r).category = 1 := by cases r <;> rfl
/-- a method's end -/
def sp_Q (G : sp_G) (post : Option Value → sp_M → Prop) : Array Value → State → Outcome → State → Prop := fun _ _ o t => ∃ (r : Option Value) (m' : sp_M), o = .returned r ∧ sp_H G m' t.heap ∧ post r m'
def sp_w (G : sp_G) (p : Program) (l : Launch) (e : Env) (R : Room) (s : State) (mm : MethodId) (args : Array Value) (below : List Frame) (meth : Method) (c : Code) (Q : State → Prop) (nL : Nat) (k n : Nat) (m : sp_M) (pc : Nat) (lv : sp_L) (st : List Value) : Prop :=
  k ≤ R.cells → n ≤ R.slots → ∀ (H : Heap) (locs : List Loc) (ls : Array Slot), sp_H G m H → (∀ q ∈ locs, G.base ≤ q.base) → sp_lv ls nL lv → W p l e R s mm args below meth c H locs (R.cells - k) (R.slots - n) Q (F0 mm pc ls st)
abbrev sp_T : Type := Nat → Nat → sp_M → Nat → sp_L → List Value → Prop
/-- w is a walk in a method's body -/
def sp_X (l : Launch) (G : sp_G) (own : String) (cc : ByteArray) (nL : Nat) (init : Bool) (ret : Option FieldType) (R : Room) (Qo : Option (Option Value → sp_M → Prop)) (w : sp_T) : Prop :=
  ∃ (p : Program) (e : Env) (s : State) (mm : MethodId) (args : Array Value) (below : List Frame) (meth : Method) (c : Code) (Q : State → Prop),
    p.tables.exec = Jvm.exec ∧ c.code = cc ∧ c.maxLocals = nL ∧ s.vm.findClass own = some mm.cls ∧ meth.locks = false ∧ meth.sig.returnType = ret ∧ (init = true → meth.name = "<init>") ∧ sp_K G s ∧
    (∀ post, Qo = some post → Q = MQ below (sp_Q G post) args s R.cells R.slots (sp_A G)) ∧ w = sp_w G p l e R s mm args below meth c Q nL
section SPB
variable {l : Launch} {G : sp_G} {own : String} {cc : ByteArray} {nL : Nat} {init : Bool} {ret : Option FieldType} {R : Room} {Qo : Option (Option Value → sp_M → Prop)} {w : sp_T}
variable {k n : Nat} {m : sp_M} {pc : Nat} {lv : sp_L} {rest : List Value}
theorem sp_less (X : sp_X l G own cc nL init ret R Qo w) {k' n' : Nat} {st : List Value} (hk : k' ≤ k) (hn : n' ≤ n) (kk : w k' n' m pc lv st) : w k n m pc lv st := by
  obtain ⟨p, e, s, mm, args, below, meth, c, Q, hx, hb, hml, hown, hlocks, hret, hini, hK, hQ, rfl⟩ := X
  intro hk0 hn0 H locs ls hH hL hl
  exact W.widen (by omega) (by omega) (kk (by omega) (by omega) H locs ls hH hL hl)
theorem sp_iconst (X : sp_X l G own cc nL init ret R Qo w) {z : Int} {v : Int32} (hdg : decode cc pc = .ok (.iconst z, 1)) (hv : Int32.ofInt z = v) (kk : w k n m (pc + 1) lv (.int v :: rest)) : w k n m pc lv (rest) := by
  obtain ⟨p, e, s, mm, args, below, meth, c, Q, hx, hb, hml, hown, hlocks, hret, hini, hK, hQ, rfl⟩ := X
  intro hk0 hn0 H locs ls hH hL hl
  exact lv_iconst hx hb hdg hv (kk hk0 hn0 H locs ls hH hL hl)
theorem sp_bipush (X : sp_X l G own cc nL init ret R Qo w) {z : Int} {v : Int32} (hdg : decode cc pc = .ok (.bipush z, 2)) (hv : (Int8.ofInt z).toInt32 = v) (kk : w k n m (pc + 2) lv (.int v :: rest)) : w k n m pc lv (rest) := by
  obtain ⟨p, e, s, mm, args, below, meth, c, Q, hx, hb, hml, hown, hlocks, hret, hini, hK, hQ, rfl⟩ := X
  intro hk0 hn0 H locs ls hH hL hl
  exact lv_bipush hx hb hdg hv (kk hk0 hn0 H locs ls hH hL hl)
theorem sp_sipush (X : sp_X l G own cc nL init ret R Qo w) {z : Int} {v : Int32} (hdg : decode cc pc = .ok (.sipush z, 3)) (hv : (Int16.ofInt z).toInt32 = v) (kk : w k n m (pc + 3) lv (.int v :: rest)) : w k n m pc lv (rest) := by
  obtain ⟨p, e, s, mm, args, below, meth, c, Q, hx, hb, hml, hown, hlocks, hret, hini, hK, hQ, rfl⟩ := X
  intro hk0 hn0 H locs ls hH hL hl
  exact lv_sipush hx hb hdg hv (kk hk0 hn0 H locs ls hH hL hl)
theorem sp_lconst (X : sp_X l G own cc nL init ret R Qo w) {z : Fin 2} {v : Int64} (hdg : decode cc pc = .ok (.lconst z, 1)) (hv : Int64.ofNat (z : Nat) = v) (kk : w k n m (pc + 1) lv (.long v :: rest)) : w k n m pc lv (rest) := by
  obtain ⟨p, e, s, mm, args, below, meth, c, Q, hx, hb, hml, hown, hlocks, hret, hini, hK, hQ, rfl⟩ := X
  intro hk0 hn0 H locs ls hH hL hl
  exact lv_lconst hx hb hdg hv (kk hk0 hn0 H locs ls hH hL hl)
theorem sp_null (X : sp_X l G own cc nL init ret R Qo w)  (hdg : decode cc pc = .ok (.aconst_null, 1))  (kk : w k n m (pc + 1) lv (va_rf none :: rest)) : w k n m pc lv (rest) := by
  obtain ⟨p, e, s, mm, args, below, meth, c, Q, hx, hb, hml, hown, hlocks, hret, hini, hK, hQ, rfl⟩ := X
  intro hk0 hn0 H locs ls hH hL hl
  exact lv_null hx hb hdg  (kk hk0 hn0 H locs ls hH hL hl)
theorem sp_ldc (X : sp_X l G own cc nL init ret R Qo w) {index : Nat} {v : Int32} (hw : Cond.constant own index v ∈ lw_tbl) (hdg : decode cc pc = .ok (.ldc index, 2)) (kk : w k n m (pc + 2) lv (.int v :: rest)) : w k n m pc lv rest := by
  obtain ⟨p, e, s, mm, args, below, meth, c, Q, hx, hb, hml, hown, hlocks, hret, hini, hK, hQ, rfl⟩ := X
  intro hk0 hn0 H locs ls hH hL hl
  exact lv_ldc hx hb hown (hK.w hw rfl _) hdg (kk hk0 hn0 H locs ls hH hL hl)
theorem sp_ldc2 (X : sp_X l G own cc nL init ret R Qo w) {index : Nat} {v : Int64} (hw : Cond.constantLong own index v ∈ lw_tbl) (hdg : decode cc pc = .ok (.ldc2_w index, 3)) (kk : w k n m (pc + 3) lv (.long v :: rest)) : w k n m pc lv rest := by
  obtain ⟨p, e, s, mm, args, below, meth, c, Q, hx, hb, hml, hown, hlocks, hret, hini, hK, hQ, rfl⟩ := X
  intro hk0 hn0 H locs ls hH hL hl
  exact lv_ldc2 hx hb hown (hK.w hw rfl _) hdg (kk hk0 hn0 H locs ls hH hL hl)
theorem sp_iload_n (X : sp_X l G own cc nL init ret R Qo w) {z : Fin 4} {i : Nat} {x : Int32} (hdg : decode cc pc = .ok (.iload_n z, 1)) (hi : (z : Nat) = i) (hlk : sp_lk lv i = some (.int x)) (kk : w k n m (pc + 1) lv (.int x :: rest)) : w k n m pc lv rest := by
  obtain ⟨p, e, s, mm, args, below, meth, c, Q, hx, hb, hml, hown, hlocks, hret, hini, hK, hQ, rfl⟩ := X
  intro hk0 hn0 H locs ls hH hL hl
  exact lv_iload_n hx hb hdg hi (sp_lv_at hl hlk) (kk hk0 hn0 H locs ls hH hL hl)
theorem sp_iload (X : sp_X l G own cc nL init ret R Qo w) {i : Nat} {x : Int32} (hdg : decode cc pc = .ok (.iload i, 2)) (hlk : sp_lk lv i = some (.int x)) (kk : w k n m (pc + 2) lv (.int x :: rest)) : w k n m pc lv rest := by
  obtain ⟨p, e, s, mm, args, below, meth, c, Q, hx, hb, hml, hown, hlocks, hret, hini, hK, hQ, rfl⟩ := X
  intro hk0 hn0 H locs ls hH hL hl
  exact lv_iload hx hb hdg (sp_lv_at hl hlk) (kk hk0 hn0 H locs ls hH hL hl)
theorem sp_lload_n (X : sp_X l G own cc nL init ret R Qo w) {z : Fin 4} {i : Nat} {x : Int64} (hdg : decode cc pc = .ok (.lload_n z, 1)) (hi : (z : Nat) = i) (hlk : sp_lk lv i = some (.long x)) (kk : w k n m (pc + 1) lv (.long x :: rest)) : w k n m pc lv rest := by
  obtain ⟨p, e, s, mm, args, below, meth, c, Q, hx, hb, hml, hown, hlocks, hret, hini, hK, hQ, rfl⟩ := X
  intro hk0 hn0 H locs ls hH hL hl
  exact lv_lload_n hx hb hdg hi (sp_lv_at hl hlk) (kk hk0 hn0 H locs ls hH hL hl)
theorem sp_lload (X : sp_X l G own cc nL init ret R Qo w) {i : Nat} {x : Int64} (hdg : decode cc pc = .ok (.lload i, 2)) (hlk : sp_lk lv i = some (.long x)) (kk : w k n m (pc + 2) lv (.long x :: rest)) : w k n m pc lv rest := by
  obtain ⟨p, e, s, mm, args, below, meth, c, Q, hx, hb, hml, hown, hlocks, hret, hini, hK, hQ, rfl⟩ := X
  intro hk0 hn0 H locs ls hH hL hl
  exact lv_lload hx hb hdg (sp_lv_at hl hlk) (kk hk0 hn0 H locs ls hH hL hl)
theorem sp_aload_n (X : sp_X l G own cc nL init ret R Qo w) {z : Fin 4} {i : Nat} {r : Option Nat} (hdg : decode cc pc = .ok (.aload_n z, 1)) (hi : (z : Nat) = i) (hlk : sp_lk lv i = some (va_rf r)) (kk : w k n m (pc + 1) lv (va_rf r :: rest)) : w k n m pc lv rest := by
  obtain ⟨p, e, s, mm, args, below, meth, c, Q, hx, hb, hml, hown, hlocks, hret, hini, hK, hQ, rfl⟩ := X
  intro hk0 hn0 H locs ls hH hL hl
  cases r with
  | none => exact lv_aload_nN hx hb hdg hi (sp_lv_at hl hlk) (kk hk0 hn0 H locs ls hH hL hl)
  | some a => exact lv_aload_n hx hb hdg hi (sp_lv_at hl hlk) (kk hk0 hn0 H locs ls hH hL hl)
theorem sp_aload (X : sp_X l G own cc nL init ret R Qo w) {i : Nat} {r : Option Nat} (hdg : decode cc pc = .ok (.aload i, 2)) (hlk : sp_lk lv i = some (va_rf r)) (kk : w k n m (pc + 2) lv (va_rf r :: rest)) : w k n m pc lv rest := by
  obtain ⟨p, e, s, mm, args, below, meth, c, Q, hx, hb, hml, hown, hlocks, hret, hini, hK, hQ, rfl⟩ := X
  intro hk0 hn0 H locs ls hH hL hl
  cases r with
  | none => exact lv_aloadN hx hb hdg (sp_lv_at hl hlk) (kk hk0 hn0 H locs ls hH hL hl)
  | some a => exact lv_aload hx hb hdg (sp_lv_at hl hlk) (kk hk0 hn0 H locs ls hH hL hl)
theorem sp_istore_n (X : sp_X l G own cc nL init ret R Qo w) {z : Fin 4} {i : Nat} {x : Int32} {lv' : sp_L} (hdg : decode cc pc = .ok (.istore_n z, 1)) (hi : (z : Nat) = i) (hn : i < nL) (hlv : (i, false, Value.int x) :: sp_st lv i = lv') (kk : w k n m (pc + 1) lv' rest) : w k n m pc lv (.int x :: rest) := by
  obtain ⟨p, e, s, mm, args, below, meth, c, Q, hx, hb, hml, hown, hlocks, hret, hini, hK, hQ, rfl⟩ := X
  intro hk0 hn0 H locs ls hH hL hl
  exact lv_istore_n hx hb hdg hi hl.1 hn rfl (fun ls' hl' => kk hk0 hn0 H locs ls' hH hL (hlv ▸ sp_lv_st hl rfl hl'))
theorem sp_istore (X : sp_X l G own cc nL init ret R Qo w) {i : Nat} {x : Int32} {lv' : sp_L} (hdg : decode cc pc = .ok (.istore i, 2)) (hn : i < nL) (hlv : (i, false, Value.int x) :: sp_st lv i = lv') (kk : w k n m (pc + 2) lv' rest) : w k n m pc lv (.int x :: rest) := by
  obtain ⟨p, e, s, mm, args, below, meth, c, Q, hx, hb, hml, hown, hlocks, hret, hini, hK, hQ, rfl⟩ := X
  intro hk0 hn0 H locs ls hH hL hl
  exact lv_istore hx hb hdg hl.1 hn rfl (fun ls' hl' => kk hk0 hn0 H locs ls' hH hL (hlv ▸ sp_lv_st hl rfl hl'))
theorem sp_lstore_n (X : sp_X l G own cc nL init ret R Qo w) {z : Fin 4} {i : Nat} {x : Int64} {lv' : sp_L} (hdg : decode cc pc = .ok (.lstore_n z, 1)) (hi : (z : Nat) = i) (hn : i + 1 < nL) (hlv : (i, true, Value.long x) :: sp_st2 lv i = lv') (kk : w k n m (pc + 1) lv' rest) : w k n m pc lv (.long x :: rest) := by
  obtain ⟨p, e, s, mm, args, below, meth, c, Q, hx, hb, hml, hown, hlocks, hret, hini, hK, hQ, rfl⟩ := X
  intro hk0 hn0 H locs ls hH hL hl
  exact lv_lstore_n hx hb hdg hi hl.1 hn rfl (fun ls' hl' => kk hk0 hn0 H locs ls' hH hL (hlv ▸ sp_lv_st2 hl rfl hl'))
theorem sp_lstore (X : sp_X l G own cc nL init ret R Qo w) {i : Nat} {x : Int64} {lv' : sp_L} (hdg : decode cc pc = .ok (.lstore i, 2)) (hn : i + 1 < nL) (hlv : (i, true, Value.long x) :: sp_st2 lv i = lv') (kk : w k n m (pc + 2) lv' rest) : w k n m pc lv (.long x :: rest) := by
  obtain ⟨p, e, s, mm, args, below, meth, c, Q, hx, hb, hml, hown, hlocks, hret, hini, hK, hQ, rfl⟩ := X
  intro hk0 hn0 H locs ls hH hL hl
  exact lv_lstore hx hb hdg hl.1 hn rfl (fun ls' hl' => kk hk0 hn0 H locs ls' hH hL (hlv ▸ sp_lv_st2 hl rfl hl'))
theorem sp_astore_n (X : sp_X l G own cc nL init ret R Qo w) {z : Fin 4} {i : Nat} {r : Option Nat} {lv' : sp_L} (hdg : decode cc pc = .ok (.astore_n z, 1)) (hi : (z : Nat) = i) (hn : i < nL) (hlv : (i, false, va_rf r) :: sp_st lv i = lv') (kk : w k n m (pc + 1) lv' rest) : w k n m pc lv (va_rf r :: rest) := by
  obtain ⟨p, e, s, mm, args, below, meth, c, Q, hx, hb, hml, hown, hlocks, hret, hini, hK, hQ, rfl⟩ := X
  intro hk0 hn0 H locs ls hH hL hl
  cases r with
  | none => exact lv_astore_nN hx hb hdg hi hl.1 hn rfl (fun ls' hl' => kk hk0 hn0 H locs ls' hH hL (hlv ▸ sp_lv_st hl rfl hl'))
  | some a => exact lv_astore_n hx hb hdg hi hl.1 hn rfl (fun ls' hl' => kk hk0 hn0 H locs ls' hH hL (hlv ▸ sp_lv_st hl rfl hl'))
theorem sp_astore (X : sp_X l G own cc nL init ret R Qo w) {i : Nat} {r : Option Nat} {lv' : sp_L} (hdg : decode cc pc = .ok (.astore i, 2)) (hn : i < nL) (hlv : (i, false, va_rf r) :: sp_st lv i = lv') (kk : w k n m (pc + 2) lv' rest) : w k n m pc lv (va_rf r :: rest) := by
  obtain ⟨p, e, s, mm, args, below, meth, c, Q, hx, hb, hml, hown, hlocks, hret, hini, hK, hQ, rfl⟩ := X
  intro hk0 hn0 H locs ls hH hL hl
  cases r with
  | none => exact lv_astoreN hx hb hdg hl.1 hn rfl (fun ls' hl' => kk hk0 hn0 H locs ls' hH hL (hlv ▸ sp_lv_st hl rfl hl'))
  | some a => exact lv_astore hx hb hdg hl.1 hn rfl (fun ls' hl' => kk hk0 hn0 H locs ls' hH hL (hlv ▸ sp_lv_st hl rfl hl'))
theorem sp_lk_map {lv : sp_L} {i : Nat} {v : Value} (hk : sp_lk lv i = some v) : ∃ j : Nat, (lv.map fun q => (q.1, q.2.2))[j]? = some (i, v) := by
  obtain ⟨b, hm⟩ := sp_lk_mem hk
  obtain ⟨j, hj⟩ := List.getElem?_of_mem hm
  exact ⟨j, by rw [List.getElem?_map, hj]; rfl⟩
theorem sp_iinc (X : sp_X l G own cc nL init ret R Qo w) {i : Nat} {z : Int} {x v : Int32} {lv' : sp_L} (hdg : decode cc pc = .ok (.iinc i z, 3)) (hlk : sp_lk lv i = some (.int x)) (hv : x + Int32.ofInt z = v) (hn : i < nL) (hlv : (i, false, Value.int v) :: sp_st lv i = lv') (kk : w k n m (pc + 3) lv' rest) : w k n m pc lv rest := by
  obtain ⟨p, e, s, mm, args, below, meth, c, Q, hx, hb, hml, hown, hlocks, hret, hini, hK, hQ, rfl⟩ := X
  intro hk0 hn0 H locs ls hH hL hl
  obtain ⟨j, hj⟩ := sp_lk_map hlk
  exact lv_iinc hx hb hdg hl.1 hj hv hn rfl (fun ls' hl' => kk hk0 hn0 H locs ls' hH hL (hlv ▸ sp_lv_st hl rfl hl'))
theorem sp_iadd (X : sp_X l G own cc nL init ret R Qo w) {x y : Int32} (hdg : decode cc pc = .ok (.iadd, 1))  (kk : w k n m (pc + 1) lv (.int (x + y) :: rest)) : w k n m pc lv (.int y :: .int x :: rest) := by
  obtain ⟨p, e, s, mm, args, below, meth, c, Q, hx, hb, hml, hown, hlocks, hret, hini, hK, hQ, rfl⟩ := X
  intro hk0 hn0 H locs ls hH hL hl
  exact lv_iadd hx hb hdg  (kk hk0 hn0 H locs ls hH hL hl)
theorem sp_isub (X : sp_X l G own cc nL init ret R Qo w) {x y : Int32} (hdg : decode cc pc = .ok (.isub, 1))  (kk : w k n m (pc + 1) lv (.int (x - y) :: rest)) : w k n m pc lv (.int y :: .int x :: rest) := by
  obtain ⟨p, e, s, mm, args, below, meth, c, Q, hx, hb, hml, hown, hlocks, hret, hini, hK, hQ, rfl⟩ := X
  intro hk0 hn0 H locs ls hH hL hl
  exact lv_isub hx hb hdg  (kk hk0 hn0 H locs ls hH hL hl)
theorem sp_imul (X : sp_X l G own cc nL init ret R Qo w) {x y : Int32} (hdg : decode cc pc = .ok (.imul, 1))  (kk : w k n m (pc + 1) lv (.int (x * y) :: rest)) : w k n m pc lv (.int y :: .int x :: rest) := by
  obtain ⟨p, e, s, mm, args, below, meth, c, Q, hx, hb, hml, hown, hlocks, hret, hini, hK, hQ, rfl⟩ := X
  intro hk0 hn0 H locs ls hH hL hl
  exact lv_imul hx hb hdg  (kk hk0 hn0 H locs ls hH hL hl)
theorem sp_iand (X : sp_X l G own cc nL init ret R Qo w) {x y : Int32} (hdg : decode cc pc = .ok (.iand, 1))  (kk : w k n m (pc + 1) lv (.int (x &&& y) :: rest)) : w k n m pc lv (.int y :: .int x :: rest) := by
  obtain ⟨p, e, s, mm, args, below, meth, c, Q, hx, hb, hml, hown, hlocks, hret, hini, hK, hQ, rfl⟩ := X
  intro hk0 hn0 H locs ls hH hL hl
  exact lv_iand hx hb hdg  (kk hk0 hn0 H locs ls hH hL hl)
theorem sp_ior (X : sp_X l G own cc nL init ret R Qo w) {x y : Int32} (hdg : decode cc pc = .ok (.ior, 1))  (kk : w k n m (pc + 1) lv (.int (x ||| y) :: rest)) : w k n m pc lv (.int y :: .int x :: rest) := by
  obtain ⟨p, e, s, mm, args, below, meth, c, Q, hx, hb, hml, hown, hlocks, hret, hini, hK, hQ, rfl⟩ := X
  intro hk0 hn0 H locs ls hH hL hl
  exact lv_ior hx hb hdg  (kk hk0 hn0 H locs ls hH hL hl)
theorem sp_ixor (X : sp_X l G own cc nL init ret R Qo w) {x y : Int32} (hdg : decode cc pc = .ok (.ixor, 1))  (kk : w k n m (pc + 1) lv (.int (x ^^^ y) :: rest)) : w k n m pc lv (.int y :: .int x :: rest) := by
  obtain ⟨p, e, s, mm, args, below, meth, c, Q, hx, hb, hml, hown, hlocks, hret, hini, hK, hQ, rfl⟩ := X
  intro hk0 hn0 H locs ls hH hL hl
  exact lv_ixor hx hb hdg  (kk hk0 hn0 H locs ls hH hL hl)
theorem sp_ishl (X : sp_X l G own cc nL init ret R Qo w) {x y : Int32} (hdg : decode cc pc = .ok (.ishl, 1))  (kk : w k n m (pc + 1) lv (.int (x <<< (y &&& 31)) :: rest)) : w k n m pc lv (.int y :: .int x :: rest) := by
  obtain ⟨p, e, s, mm, args, below, meth, c, Q, hx, hb, hml, hown, hlocks, hret, hini, hK, hQ, rfl⟩ := X
  intro hk0 hn0 H locs ls hH hL hl
  exact lv_ishl hx hb hdg  (kk hk0 hn0 H locs ls hH hL hl)
theorem sp_ishr (X : sp_X l G own cc nL init ret R Qo w) {x y : Int32} (hdg : decode cc pc = .ok (.ishr, 1))  (kk : w k n m (pc + 1) lv (.int (x >>> (y &&& 31)) :: rest)) : w k n m pc lv (.int y :: .int x :: rest) := by
  obtain ⟨p, e, s, mm, args, below, meth, c, Q, hx, hb, hml, hown, hlocks, hret, hini, hK, hQ, rfl⟩ := X
  intro hk0 hn0 H locs ls hH hL hl
  exact lv_ishr hx hb hdg  (kk hk0 hn0 H locs ls hH hL hl)
theorem sp_ladd (X : sp_X l G own cc nL init ret R Qo w) {x y : Int64} (hdg : decode cc pc = .ok (.ladd, 1))  (kk : w k n m (pc + 1) lv (.long (x + y) :: rest)) : w k n m pc lv (.long y :: .long x :: rest) := by
  obtain ⟨p, e, s, mm, args, below, meth, c, Q, hx, hb, hml, hown, hlocks, hret, hini, hK, hQ, rfl⟩ := X
  intro hk0 hn0 H locs ls hH hL hl
  exact lv_ladd hx hb hdg  (kk hk0 hn0 H locs ls hH hL hl)
theorem sp_lsub (X : sp_X l G own cc nL init ret R Qo w) {x y : Int64} (hdg : decode cc pc = .ok (.lsub, 1))  (kk : w k n m (pc + 1) lv (.long (x - y) :: rest)) : w k n m pc lv (.long y :: .long x :: rest) := by
  obtain ⟨p, e, s, mm, args, below, meth, c, Q, hx, hb, hml, hown, hlocks, hret, hini, hK, hQ, rfl⟩ := X
  intro hk0 hn0 H locs ls hH hL hl
  exact lv_lsub hx hb hdg  (kk hk0 hn0 H locs ls hH hL hl)
theorem sp_lmul (X : sp_X l G own cc nL init ret R Qo w) {x y : Int64} (hdg : decode cc pc = .ok (.lmul, 1))  (kk : w k n m (pc + 1) lv (.long (x * y) :: rest)) : w k n m pc lv (.long y :: .long x :: rest) := by
  obtain ⟨p, e, s, mm, args, below, meth, c, Q, hx, hb, hml, hown, hlocks, hret, hini, hK, hQ, rfl⟩ := X
  intro hk0 hn0 H locs ls hH hL hl
  exact lv_lmul hx hb hdg  (kk hk0 hn0 H locs ls hH hL hl)
theorem sp_land (X : sp_X l G own cc nL init ret R Qo w) {x y : Int64} (hdg : decode cc pc = .ok (.land, 1))  (kk : w k n m (pc + 1) lv (.long (x &&& y) :: rest)) : w k n m pc lv (.long y :: .long x :: rest) := by
  obtain ⟨p, e, s, mm, args, below, meth, c, Q, hx, hb, hml, hown, hlocks, hret, hini, hK, hQ, rfl⟩ := X
  intro hk0 hn0 H locs ls hH hL hl
  exact lv_land hx hb hdg  (kk hk0 hn0 H locs ls hH hL hl)
theorem sp_lor (X : sp_X l G own cc nL init ret R Qo w) {x y : Int64} (hdg : decode cc pc = .ok (.lor, 1))  (kk : w k n m (pc + 1) lv (.long (x ||| y) :: rest)) : w k n m pc lv (.long y :: .long x :: rest) := by
  obtain ⟨p, e, s, mm, args, below, meth, c, Q, hx, hb, hml, hown, hlocks, hret, hini, hK, hQ, rfl⟩ := X
  intro hk0 hn0 H locs ls hH hL hl
  exact lv_lor hx hb hdg  (kk hk0 hn0 H locs ls hH hL hl)
theorem sp_lxor (X : sp_X l G own cc nL init ret R Qo w) {x y : Int64} (hdg : decode cc pc = .ok (.lxor, 1))  (kk : w k n m (pc + 1) lv (.long (x ^^^ y) :: rest)) : w k n m pc lv (.long y :: .long x :: rest) := by
  obtain ⟨p, e, s, mm, args, below, meth, c, Q, hx, hb, hml, hown, hlocks, hret, hini, hK, hQ, rfl⟩ := X
  intro hk0 hn0 H locs ls hH hL hl
  exact lv_lxor hx hb hdg  (kk hk0 hn0 H locs ls hH hL hl)
theorem sp_lcmp (X : sp_X l G own cc nL init ret R Qo w) {x y : Int64} (hdg : decode cc pc = .ok (.lcmp, 1)) (kk : w k n m (pc + 1) lv (.int (lg_cmp x y) :: rest)) : w k n m pc lv (.long y :: .long x :: rest) := by
  obtain ⟨p, e, s, mm, args, below, meth, c, Q, hx, hb, hml, hown, hlocks, hret, hini, hK, hQ, rfl⟩ := X
  intro hk0 hn0 H locs ls hH hL hl
  exact W.lcmp hx hb hdg (kk hk0 hn0 H locs ls hH hL hl)
theorem sp_lshl (X : sp_X l G own cc nL init ret R Qo w) {x v : Int64} {y : Int32} (hdg : decode cc pc = .ok (.lshl, 1)) (hv : x <<< (y.toInt64 &&& 63) = v) (kk : w k n m (pc + 1) lv (.long v :: rest)) : w k n m pc lv (.int y :: .long x :: rest) := by
  obtain ⟨p, e, s, mm, args, below, meth, c, Q, hx, hb, hml, hown, hlocks, hret, hini, hK, hQ, rfl⟩ := X
  intro hk0 hn0 H locs ls hH hL hl
  exact lv_lshl hx hb hdg hv (kk hk0 hn0 H locs ls hH hL hl)
theorem sp_i2l (X : sp_X l G own cc nL init ret R Qo w) {x : Int32} (hdg : decode cc pc = .ok (.i2l, 1))  (kk : w k n m (pc + 1) lv (.long x.toInt64 :: rest)) : w k n m pc lv (.int x :: rest) := by
  obtain ⟨p, e, s, mm, args, below, meth, c, Q, hx, hb, hml, hown, hlocks, hret, hini, hK, hQ, rfl⟩ := X
  intro hk0 hn0 H locs ls hH hL hl
  exact lv_i2l hx hb hdg rfl (kk hk0 hn0 H locs ls hH hL hl)
theorem sp_i2c (X : sp_X l G own cc nL init ret R Qo w) {x : Int32} (hdg : decode cc pc = .ok (.i2c, 1))  (kk : w k n m (pc + 1) lv (.int (x.toUInt32 % 65536).toInt32 :: rest)) : w k n m pc lv (.int x :: rest) := by
  obtain ⟨p, e, s, mm, args, below, meth, c, Q, hx, hb, hml, hown, hlocks, hret, hini, hK, hQ, rfl⟩ := X
  intro hk0 hn0 H locs ls hH hL hl
  exact lv_i2c hx hb hdg rfl (kk hk0 hn0 H locs ls hH hL hl)
theorem sp_i2b (X : sp_X l G own cc nL init ret R Qo w) {x : Int32} (hdg : decode cc pc = .ok (.i2b, 1))  (kk : w k n m (pc + 1) lv (.int x.toInt8.toInt32 :: rest)) : w k n m pc lv (.int x :: rest) := by
  obtain ⟨p, e, s, mm, args, below, meth, c, Q, hx, hb, hml, hown, hlocks, hret, hini, hK, hQ, rfl⟩ := X
  intro hk0 hn0 H locs ls hH hL hl
  exact lv_i2b hx hb hdg rfl (kk hk0 hn0 H locs ls hH hL hl)
theorem sp_dup (X : sp_X l G own cc nL init ret R Qo w) {va : Value} (hdg : decode cc pc = .ok (.dup, 1)) (hva : va.category = 1) (kk : w k n m (pc + 1) lv (va :: va :: rest)) : w k n m pc lv (va :: rest) := by
  obtain ⟨p, e, s, mm, args, below, meth, c, Q, hx, hb, hml, hown, hlocks, hret, hini, hK, hQ, rfl⟩ := X
  intro hk0 hn0 H locs ls hH hL hl
  exact lv_dup hx hb hdg hva (kk hk0 hn0 H locs ls hH hL hl)
theorem sp_pop (X : sp_X l G own cc nL init ret R Qo w) {va : Value} (hdg : decode cc pc = .ok (.pop, 1)) (hva : va.category = 1) (kk : w k n m (pc + 1) lv (rest)) : w k n m pc lv (va :: rest) := by
  obtain ⟨p, e, s, mm, args, below, meth, c, Q, hx, hb, hml, hown, hlocks, hret, hini, hK, hQ, rfl⟩ := X
  intro hk0 hn0 H locs ls hH hL hl
  exact lv_pop hx hb hdg hva (kk hk0 hn0 H locs ls hH hL hl)
theorem sp_pop2 (X : sp_X l G own cc nL init ret R Qo w) {va : Value} (hdg : decode cc pc = .ok (.pop2, 1)) (hva : va.category = 2) (kk : w k n m (pc + 1) lv (rest)) : w k n m pc lv (va :: rest) := by
  obtain ⟨p, e, s, mm, args, below, meth, c, Q, hx, hb, hml, hown, hlocks, hret, hini, hK, hQ, rfl⟩ := X
  intro hk0 hn0 H locs ls hH hL hl
  exact lv_pop2_2 hx hb hdg hva (kk hk0 hn0 H locs ls hH hL hl)
theorem sp_dup_x1 (X : sp_X l G own cc nL init ret R Qo w) {va vb : Value} (hdg : decode cc pc = .ok (.dup_x1, 1)) (hva : va.category = 1) (hvb : vb.category = 1) (kk : w k n m (pc + 1) lv (va :: vb :: va :: rest)) : w k n m pc lv (va :: vb :: rest) := by
  obtain ⟨p, e, s, mm, args, below, meth, c, Q, hx, hb, hml, hown, hlocks, hret, hini, hK, hQ, rfl⟩ := X
  intro hk0 hn0 H locs ls hH hL hl
  exact lv_dup_x1 hx hb hdg hva hvb (kk hk0 hn0 H locs ls hH hL hl)
theorem sp_dup_x2 (X : sp_X l G own cc nL init ret R Qo w) {va vb vd : Value} (hdg : decode cc pc = .ok (.dup_x2, 1)) (hva : va.category = 1) (hvb : vb.category = 1) (hvd : vd.category = 1) (kk : w k n m (pc + 1) lv (va :: vb :: vd :: va :: rest)) : w k n m pc lv (va :: vb :: vd :: rest) := by
  obtain ⟨p, e, s, mm, args, below, meth, c, Q, hx, hb, hml, hown, hlocks, hret, hini, hK, hQ, rfl⟩ := X
  intro hk0 hn0 H locs ls hH hL hl
  exact lv_dup_x2 hx hb hdg hva hvb hvd (kk hk0 hn0 H locs ls hH hL hl)
theorem sp_dup2_11 (X : sp_X l G own cc nL init ret R Qo w) {va vb : Value} (hdg : decode cc pc = .ok (.dup2, 1)) (hva : va.category = 1) (hvb : vb.category = 1) (kk : w k n m (pc + 1) lv (va :: vb :: va :: vb :: rest)) : w k n m pc lv (va :: vb :: rest) := by
  obtain ⟨p, e, s, mm, args, below, meth, c, Q, hx, hb, hml, hown, hlocks, hret, hini, hK, hQ, rfl⟩ := X
  intro hk0 hn0 H locs ls hH hL hl
  exact lv_dup2_11 hx hb hdg hva hvb (kk hk0 hn0 H locs ls hH hL hl)
theorem sp_if_eq (X : sp_X l G own cc nL init ret R Qo w) {x : Int32} {off : Int} {tgt : Nat} (hdg : decode cc pc = .ok (.ifCond .eq off, 3)) (ht : (pc : Int) + off = (tgt : Int)) (kt : x = 0 → w k n m tgt lv rest) (kf : ¬ x = 0 → w k n m (pc + 3) lv rest) : w k n m pc lv (.int x :: rest) := by
  obtain ⟨p, e, s, mm, args, below, meth, c, Q, hx, hb, hml, hown, hlocks, hret, hini, hK, hQ, rfl⟩ := X
  intro hk0 hn0 H locs ls hH hL hl
  exact lv_if_eq hx hb hdg ht (fun z => kt z hk0 hn0 H locs ls hH hL hl) (fun z => kf z hk0 hn0 H locs ls hH hL hl)
theorem sp_icmp_eq (X : sp_X l G own cc nL init ret R Qo w) {x y : Int32} {off : Int} {tgt : Nat} (hdg : decode cc pc = .ok (.if_icmp .eq off, 3)) (ht : (pc : Int) + off = (tgt : Int)) (kt : x = y → w k n m tgt lv rest) (kf : ¬ x = y → w k n m (pc + 3) lv rest) : w k n m pc lv (.int y :: .int x :: rest) := by
  obtain ⟨p, e, s, mm, args, below, meth, c, Q, hx, hb, hml, hown, hlocks, hret, hini, hK, hQ, rfl⟩ := X
  intro hk0 hn0 H locs ls hH hL hl
  exact lv_icmp_eq hx hb hdg ht (fun z => kt z hk0 hn0 H locs ls hH hL hl) (fun z => kf z hk0 hn0 H locs ls hH hL hl)
theorem sp_if_ne (X : sp_X l G own cc nL init ret R Qo w) {x : Int32} {off : Int} {tgt : Nat} (hdg : decode cc pc = .ok (.ifCond .ne off, 3)) (ht : (pc : Int) + off = (tgt : Int)) (kt : ¬ x = 0 → w k n m tgt lv rest) (kf : x = 0 → w k n m (pc + 3) lv rest) : w k n m pc lv (.int x :: rest) := by
  obtain ⟨p, e, s, mm, args, below, meth, c, Q, hx, hb, hml, hown, hlocks, hret, hini, hK, hQ, rfl⟩ := X
  intro hk0 hn0 H locs ls hH hL hl
  exact lv_if_ne hx hb hdg ht (fun z => kt z hk0 hn0 H locs ls hH hL hl) (fun z => kf z hk0 hn0 H locs ls hH hL hl)
theorem sp_icmp_ne (X : sp_X l G own cc nL init ret R Qo w) {x y : Int32} {off : Int} {tgt : Nat} (hdg : decode cc pc = .ok (.if_icmp .ne off, 3)) (ht : (pc : Int) + off = (tgt : Int)) (kt : ¬ x = y → w k n m tgt lv rest) (kf : x = y → w k n m (pc + 3) lv rest) : w k n m pc lv (.int y :: .int x :: rest) := by
  obtain ⟨p, e, s, mm, args, below, meth, c, Q, hx, hb, hml, hown, hlocks, hret, hini, hK, hQ, rfl⟩ := X
  intro hk0 hn0 H locs ls hH hL hl
  exact lv_icmp_ne hx hb hdg ht (fun z => kt z hk0 hn0 H locs ls hH hL hl) (fun z => kf z hk0 hn0 H locs ls hH hL hl)
theorem sp_if_lt (X : sp_X l G own cc nL init ret R Qo w) {x : Int32} {off : Int} {tgt : Nat} (hdg : decode cc pc = .ok (.ifCond .lt off, 3)) (ht : (pc : Int) + off = (tgt : Int)) (kt : x < 0 → w k n m tgt lv rest) (kf : ¬ x < 0 → w k n m (pc + 3) lv rest) : w k n m pc lv (.int x :: rest) := by
  obtain ⟨p, e, s, mm, args, below, meth, c, Q, hx, hb, hml, hown, hlocks, hret, hini, hK, hQ, rfl⟩ := X
  intro hk0 hn0 H locs ls hH hL hl
  exact lv_if_lt hx hb hdg ht (fun z => kt z hk0 hn0 H locs ls hH hL hl) (fun z => kf z hk0 hn0 H locs ls hH hL hl)
theorem sp_icmp_lt (X : sp_X l G own cc nL init ret R Qo w) {x y : Int32} {off : Int} {tgt : Nat} (hdg : decode cc pc = .ok (.if_icmp .lt off, 3)) (ht : (pc : Int) + off = (tgt : Int)) (kt : x < y → w k n m tgt lv rest) (kf : ¬ x < y → w k n m (pc + 3) lv rest) : w k n m pc lv (.int y :: .int x :: rest) := by
  obtain ⟨p, e, s, mm, args, below, meth, c, Q, hx, hb, hml, hown, hlocks, hret, hini, hK, hQ, rfl⟩ := X
  intro hk0 hn0 H locs ls hH hL hl
  exact lv_icmp_lt hx hb hdg ht (fun z => kt z hk0 hn0 H locs ls hH hL hl) (fun z => kf z hk0 hn0 H locs ls hH hL hl)
theorem sp_if_ge (X : sp_X l G own cc nL init ret R Qo w) {x : Int32} {off : Int} {tgt : Nat} (hdg : decode cc pc = .ok (.ifCond .ge off, 3)) (ht : (pc : Int) + off = (tgt : Int)) (kt : 0 ≤ x → w k n m tgt lv rest) (kf : ¬ 0 ≤ x → w k n m (pc + 3) lv rest) : w k n m pc lv (.int x :: rest) := by
  obtain ⟨p, e, s, mm, args, below, meth, c, Q, hx, hb, hml, hown, hlocks, hret, hini, hK, hQ, rfl⟩ := X
  intro hk0 hn0 H locs ls hH hL hl
  exact lv_if_ge hx hb hdg ht (fun z => kt z hk0 hn0 H locs ls hH hL hl) (fun z => kf z hk0 hn0 H locs ls hH hL hl)
theorem sp_icmp_ge (X : sp_X l G own cc nL init ret R Qo w) {x y : Int32} {off : Int} {tgt : Nat} (hdg : decode cc pc = .ok (.if_icmp .ge off, 3)) (ht : (pc : Int) + off = (tgt : Int)) (kt : y ≤ x → w k n m tgt lv rest) (kf : ¬ y ≤ x → w k n m (pc + 3) lv rest) : w k n m pc lv (.int y :: .int x :: rest) := by
  obtain ⟨p, e, s, mm, args, below, meth, c, Q, hx, hb, hml, hown, hlocks, hret, hini, hK, hQ, rfl⟩ := X
  intro hk0 hn0 H locs ls hH hL hl
  exact lv_icmp_ge hx hb hdg ht (fun z => kt z hk0 hn0 H locs ls hH hL hl) (fun z => kf z hk0 hn0 H locs ls hH hL hl)
theorem sp_if_gt (X : sp_X l G own cc nL init ret R Qo w) {x : Int32} {off : Int} {tgt : Nat} (hdg : decode cc pc = .ok (.ifCond .gt off, 3)) (ht : (pc : Int) + off = (tgt : Int)) (kt : 0 < x → w k n m tgt lv rest) (kf : ¬ 0 < x → w k n m (pc + 3) lv rest) : w k n m pc lv (.int x :: rest) := by
  obtain ⟨p, e, s, mm, args, below, meth, c, Q, hx, hb, hml, hown, hlocks, hret, hini, hK, hQ, rfl⟩ := X
  intro hk0 hn0 H locs ls hH hL hl
  exact lv_if_gt hx hb hdg ht (fun z => kt z hk0 hn0 H locs ls hH hL hl) (fun z => kf z hk0 hn0 H locs ls hH hL hl)
theorem sp_icmp_gt (X : sp_X l G own cc nL init ret R Qo w) {x y : Int32} {off : Int} {tgt : Nat} (hdg : decode cc pc = .ok (.if_icmp .gt off, 3)) (ht : (pc : Int) + off = (tgt : Int)) (kt : y < x → w k n m tgt lv rest) (kf : ¬ y < x → w k n m (pc + 3) lv rest) : w k n m pc lv (.int y :: .int x :: rest) := by
  obtain ⟨p, e, s, mm, args, below, meth, c, Q, hx, hb, hml, hown, hlocks, hret, hini, hK, hQ, rfl⟩ := X
  intro hk0 hn0 H locs ls hH hL hl
  exact lv_icmp_gt hx hb hdg ht (fun z => kt z hk0 hn0 H locs ls hH hL hl) (fun z => kf z hk0 hn0 H locs ls hH hL hl)
theorem sp_if_le (X : sp_X l G own cc nL init ret R Qo w) {x : Int32} {off : Int} {tgt : Nat} (hdg : decode cc pc = .ok (.ifCond .le off, 3)) (ht : (pc : Int) + off = (tgt : Int)) (kt : x ≤ 0 → w k n m tgt lv rest) (kf : ¬ x ≤ 0 → w k n m (pc + 3) lv rest) : w k n m pc lv (.int x :: rest) := by
  obtain ⟨p, e, s, mm, args, below, meth, c, Q, hx, hb, hml, hown, hlocks, hret, hini, hK, hQ, rfl⟩ := X
  intro hk0 hn0 H locs ls hH hL hl
  exact lv_if_le hx hb hdg ht (fun z => kt z hk0 hn0 H locs ls hH hL hl) (fun z => kf z hk0 hn0 H locs ls hH hL hl)
theorem sp_icmp_le (X : sp_X l G own cc nL init ret R Qo w) {x y : Int32} {off : Int} {tgt : Nat} (hdg : decode cc pc = .ok (.if_icmp .le off, 3)) (ht : (pc : Int) + off = (tgt : Int)) (kt : x ≤ y → w k n m tgt lv rest) (kf : ¬ x ≤ y → w k n m (pc + 3) lv rest) : w k n m pc lv (.int y :: .int x :: rest) := by
  obtain ⟨p, e, s, mm, args, below, meth, c, Q, hx, hb, hml, hown, hlocks, hret, hini, hK, hQ, rfl⟩ := X
  intro hk0 hn0 H locs ls hH hL hl
  exact lv_icmp_le hx hb hdg ht (fun z => kt z hk0 hn0 H locs ls hH hL hl) (fun z => kf z hk0 hn0 H locs ls hH hL hl)
theorem sp_goto (X : sp_X l G own cc nL init ret R Qo w) {off : Int} {tgt : Nat} (hdg : decode cc pc = .ok (.goto off, 3)) (ht : (pc : Int) + off = (tgt : Int)) (kk : w k n m tgt lv rest) : w k n m pc lv rest := by
  obtain ⟨p, e, s, mm, args, below, meth, c, Q, hx, hb, hml, hown, hlocks, hret, hini, hK, hQ, rfl⟩ := X
  intro hk0 hn0 H locs ls hH hL hl
  exact lv_goto hx hb hdg ht (kk hk0 hn0 H locs ls hH hL hl)
theorem sp_ifnonnull (X : sp_X l G own cc nL init ret R Qo w) {r : Option Nat} {off : Int} {tgt : Nat} (hdg : decode cc pc = .ok (.ifnonnull off, 3)) (ht : (pc : Int) + off = (tgt : Int)) (kt : ∀ a, r = some a → w k n m tgt lv rest) (kf : r = none → w k n m (pc + 3) lv rest) : w k n m pc lv (va_rf r :: rest) := by
  obtain ⟨p, e, s, mm, args, below, meth, c, Q, hx, hb, hml, hown, hlocks, hret, hini, hK, hQ, rfl⟩ := X
  intro hk0 hn0 H locs ls hH hL hl
  cases r with
  | none => exact lv_ifnonnullN hx hb hdg (kf rfl hk0 hn0 H locs ls hH hL hl)
  | some a => exact lv_ifnonnull hx hb hdg ht (kt a rfl hk0 hn0 H locs ls hH hL hl)
theorem sp_ifnull (X : sp_X l G own cc nL init ret R Qo w) {r : Option Nat} {off : Int} {tgt : Nat} (hdg : decode cc pc = .ok (.ifnull off, 3)) (ht : (pc : Int) + off = (tgt : Int)) (kt : r = none → w k n m tgt lv rest) (kf : ∀ a, r = some a → w k n m (pc + 3) lv rest) : w k n m pc lv (va_rf r :: rest) := by
  obtain ⟨p, e, s, mm, args, below, meth, c, Q, hx, hb, hml, hown, hlocks, hret, hini, hK, hQ, rfl⟩ := X
  intro hk0 hn0 H locs ls hH hL hl
  cases r with
  | none => exact lv_ifnullN hx hb hdg ht (kt rfl hk0 hn0 H locs ls hH hL hl)
  | some a => exact lv_ifnull hx hb hdg (kf a rfl hk0 hn0 H locs ls hH hL hl)
theorem sp_acmp_eq (X : sp_X l G own cc nL init ret R Qo w) {rx ry : Option Nat} {off : Int} {tgt : Nat} (hdg : decode cc pc = .ok (.if_acmp .eq off, 3)) (ht : (pc : Int) + off = (tgt : Int)) (kt : rx = ry → w k n m tgt lv rest) (kf : ¬ rx = ry → w k n m (pc + 3) lv rest) : w k n m pc lv (va_rf ry :: va_rf rx :: rest) := by
  obtain ⟨p, e, s, mm, args, below, meth, c, Q, hx, hb, hml, hown, hlocks, hret, hini, hK, hQ, rfl⟩ := X
  intro hk0 hn0 H locs ls hH hL hl
  exact lv_acmp_eq hx hb hdg ht (fun z => kt z hk0 hn0 H locs ls hH hL hl) (fun z => kf z hk0 hn0 H locs ls hH hL hl)
theorem sp_acmp_ne (X : sp_X l G own cc nL init ret R Qo w) {rx ry : Option Nat} {off : Int} {tgt : Nat} (hdg : decode cc pc = .ok (.if_acmp .ne off, 3)) (ht : (pc : Int) + off = (tgt : Int)) (kt : ¬ rx = ry → w k n m tgt lv rest) (kf : rx = ry → w k n m (pc + 3) lv rest) : w k n m pc lv (va_rf ry :: va_rf rx :: rest) := by
  obtain ⟨p, e, s, mm, args, below, meth, c, Q, hx, hb, hml, hown, hlocks, hret, hini, hK, hQ, rfl⟩ := X
  intro hk0 hn0 H locs ls hH hL hl
  exact lv_acmp_ne hx hb hdg ht (fun z => kt z hk0 hn0 H locs ls hH hL hl) (fun z => kf z hk0 hn0 H locs ls hH hL hl)
theorem sp_tableOut (X : sp_X l G own cc nL init ret R Qo w) {dflt lo hi : Int} {offs : Array Int} {len : Nat} {x : Int32} {tgt : Nat} (hdg : decode cc pc = .ok (.tableswitch dflt lo hi offs, len)) (h : x.toInt < lo ∨ hi < x.toInt) (ht : (pc : Int) + dflt = (tgt : Int)) (kk : w k n m tgt lv rest) : w k n m pc lv (.int x :: rest) := by
  obtain ⟨p, e, s, mm, args, below, meth, c, Q, hx, hb, hml, hown, hlocks, hret, hini, hK, hQ, rfl⟩ := X
  intro hk0 hn0 H locs ls hH hL hl
  exact lv_tableOut hx hb hdg h ht (kk hk0 hn0 H locs ls hH hL hl)
theorem sp_tableIn (X : sp_X l G own cc nL init ret R Qo w) {dflt lo hi : Int} {offs : Array Int} {len : Nat} {x : Int32} {off : Int} {tgt : Nat} (hdg : decode cc pc = .ok (.tableswitch dflt lo hi offs, len)) (h1 : ¬ x.toInt < lo) (h2 : ¬ hi < x.toInt) (ho : offs[(x.toInt - lo).toNat]? = some off) (ht : (pc : Int) + off = (tgt : Int)) (kk : w k n m tgt lv rest) : w k n m pc lv (.int x :: rest) := by
  obtain ⟨p, e, s, mm, args, below, meth, c, Q, hx, hb, hml, hown, hlocks, hret, hini, hK, hQ, rfl⟩ := X
  intro hk0 hn0 H locs ls hH hL hl
  exact lv_tableIn hx hb hdg h1 h2 ho ht (kk hk0 hn0 H locs ls hH hL hl)
theorem sp_ireturn {post : Option Value → sp_M → Prop} {ty : FieldType} (X : sp_X l G own cc nL init (some ty) R (some post) w) {v : Int32} (hdg : decode cc pc = .ok (.ireturn, 1)) (hn : narrow ty (.int v) = .int v) (hp : post (some (.int v)) m) : w k n m pc lv [.int v] := by
  obtain ⟨p, e, s, mm, args, below, meth, c, Q, hx, hb, hml, hown, hlocks, hret, hini, hK, hQ, rfl⟩ := X
  intro hk0 hn0 H locs ls hH hL hl
  rw [hQ post rfl]
  refine W.widen (k := R.cells) (n := R.slots) (by omega) (by omega) ?_
  exact W.zret hx hb hret hn (fun t ht _ => ⟨_, m, rfl, by rw [ht]; exact hH, hp⟩) hL hdg hlocks
theorem sp_lreturn {post : Option Value → sp_M → Prop} (X : sp_X l G own cc nL init (some .long) R (some post) w) {v : Int64} (hdg : decode cc pc = .ok (.lreturn, 1)) (hp : post (some (.long v)) m) : w k n m pc lv [.long v] := by
  obtain ⟨p, e, s, mm, args, below, meth, c, Q, hx, hb, hml, hown, hlocks, hret, hini, hK, hQ, rfl⟩ := X
  intro hk0 hn0 H locs ls hH hL hl
  rw [hQ post rfl]
  refine W.widen (k := R.cells) (n := R.slots) (by omega) (by omega) ?_
  exact W.lret hx hb hret (fun t ht _ => ⟨_, m, rfl, by rw [ht]; exact hH, hp⟩) hL hdg hlocks
theorem sp_return {post : Option Value → sp_M → Prop} (X : sp_X l G own cc nL init none R (some post) w) (hdg : decode cc pc = .ok (.return_, 1)) (hp : post none m) : w k n m pc lv [] := by
  obtain ⟨p, e, s, mm, args, below, meth, c, Q, hx, hb, hml, hown, hlocks, hret, hini, hK, hQ, rfl⟩ := X
  intro hk0 hn0 H locs ls hH hL hl
  rw [hQ post rfl]
  refine W.widen (k := R.cells) (n := R.slots) (by omega) (by omega) ?_
  exact W.vret hx hb hret (fun t ht _ => ⟨_, m, rfl, by rw [ht]; exact hH, hp⟩) hL hdg hlocks
theorem sp_areturn {post : Option Value → sp_M → Prop} {rt : FieldType} (X : sp_X l G own cc nL init (some rt) R (some post) w) {r : Option Nat} (hrt : (∃ n, rt = .object n) ∨ ∃ t, rt = .array t) (hdg : decode cc pc = .ok (.areturn, 1)) (hp : post (some (va_rf r)) m) : w k n m pc lv [va_rf r] := by
  obtain ⟨p, e, s, mm, args, below, meth, c, Q, hx, hb, hml, hown, hlocks, hret, hini, hK, hQ, rfl⟩ := X
  intro hk0 hn0 H locs ls hH hL hl
  rw [hQ post rfl]
  refine W.widen (k := R.cells) (n := R.slots) (by omega) (by omega) ?_
  exact W.aret hx hb hret hrt (by cases r; exact Or.inl rfl; exact Or.inr ⟨_, rfl⟩) (fun t ht _ => ⟨_, m, rfl, by rw [ht]; exact hH, hp⟩) hL hdg hlocks
end SPB
