def R_law : String := "SafePathsLaw"
def lw_P (b : Addr) (xs : List Int32) (args : Array Value) (s : State) : Prop := args = #[.ref b] ∧ s.IntsAt b xs ∧ xs.length ≤ 385 ∧ (Jvm.Cond.and given_1 narrow_1).before args s = true
def lw_Q (_ : Array Value) (s : State) (o : Outcome) (t : State) : Prop := o = .returned (some (.int 1)) ∧ Framed s o t [] 600000 7302250
def lw_Z (below : List Frame) (a : Array Value) (s : State) : State → Prop := fun t => ∃ o, t.status = .running ∧ Ended t below o ∧ lw_Q a s o t
/-- the law's own end, with 1 on the stack, nothing written that was there before, its room as the claim has it -/
theorem lw_ret {p : Program} {l : Launch} {e : Env} {s : State} {m : MethodId} {below : List Frame} {meth : Method} {c : Code} {b : Nat} (hx : p.tables.exec = Jvm.exec) (hb : c.code = code) (hr : meth.sig.returnType = ret) (hlocks : meth.locks = false) {pc : Nat} {H : Heap} {ls : Array Slot} (hdg : decode code pc = .ok (.ireturn, 1)) : W p l e room_1 s m #[Value.ref b] below meth c H [] 600000 7302250 (lw_Z below #[Value.ref b] s) (F0 m pc ls [.int 1]) := by
  intro T hT X
  obtain ⟨fs, hret, hrun, hended, hW, hframe⟩ := X.leave (v := some (.int 1)) (hlocks := hlocks) (fun h => by rw [hr] at h; cases h)
  have hmeth' : T.vm.method? m = some meth := X.method'
  refine ⟨T.setFrames fs, ?_, .returned (some (.int 1)), hrun, hended, rfl, ⟨_, rfl⟩, hW, hframe⟩
  jvm_step X.here [X.here.top, hx, hb, hdg, hmeth', hr, ret, narrow_b1]
  (try refine ⟨rfl, ?_⟩); (try refine ⟨rfl, ?_⟩)
  first | (intro acts; rw [hret _ acts rfl rfl rfl]) | rw [hret _ _ rfl rfl rfl]
  exact Steps.refl _
/-- what holds at the law's entry: the machine, the code, the tables' words (any of lw_tbl by 'hts w (by decide +kernel)'), the script of L ints xs at the cell b, what the Statement gives of the start (any of its parts by flat_of_before) -/
def lw_At (p : Program) (s : State) (m : MethodId) (meth : Method) (c : Code) (b L : Nat) (xs : Nat → Int32) : Prop :=
  p.tables.exec = Jvm.exec ∧ c.code = code ∧ meth.sig.returnType = ret ∧ c.maxLocals = 4 ∧ s.vm.findClass R_law = some m.cls ∧ (∀ w ∈ lw_tbl, w.before #[Value.ref b] s = true) ∧ va_X b L xs s s.heap ∧ b < s.heap.size ∧ meth.locks = false ∧ (Jvm.Cond.and given_1 narrow_1).before #[Value.ref b] s = true
theorem whole_start {p : Program} {e : Env} {s : State} {m : MethodId} {below : List Frame} {meth : Method} {c : Code} (l : Launch) {b L : Nat} {xs : Nat → Int32} (hL : L ≤ 385) (C0 : lw_At p s m meth c b L xs) : W p l e room_1 s m #[Value.ref b] below meth c s.heap [] 0 0 (lw_Z below #[Value.ref b] s) (entryFrame m ([Value.ref b] : List Value).toArray 4) := by
  obtain ⟨hx, hb, hr, hml, hown, hts, hX, hbl, hlocks, hgv⟩ := id C0
  obtain ⟨G, m9, ys, hK, hG, hba, hH, hwf, hJ, hS, -, ⟨s4t, s4l⟩, ⟨s5t, s5l, a50, a51, a52⟩, ⟨s6t, s6l, a60, a61, a62, a63⟩, ⟨s7t, s7l, a70, a71, a72⟩⟩ := sp_known hts hX hgv
  obtain ⟨w9, hw9⟩ : ∃ w : sp_T, w = sp_w G p l e room_1 s m #[Value.ref b] below meth c (lw_Z below #[Value.ref b] s) 4 := ⟨_, rfl⟩
  have X9 : sp_X l G "SafePathsLaw" cL_law 4 false ret room_1 none w9 := ⟨p, e, s, m, _, below, meth, c, _, hx, hb, hml, hown, hlocks, hr, (fun h => by cases h), hK, (fun post h => by cases h), hw9⟩
  have hend : ∀ k n m2 lv, w9 k n m2 642 lv [.int 1] := by
    intro k n m2 lv
    rw [hw9]
    intro hk0 hn0 H locs ls hH hL hl
    refine va_forget (fun q hq => by rw [← hba]; exact hL q hq) ?_
    refine W.widen (k := 600000) (n := 7302250) (Nat.sub_le _ _) (Nat.sub_le _ _) ?_
    exact lw_ret hx hb hr hlocks dL_law_642
  have s5c : ∀ j, j < 3 → m9.aI (G.sk 5) j = ([111, 117, 116] : List Int32).getD j 0 := fun j hj =>
    match j, hj with
    | 0, _ => a50
    | 1, _ => a51
    | 2, _ => a52
    | n + 3, h => absurd h (by omega)
  have s6c : ∀ j, j < 4 → m9.aI (G.sk 6) j = ([104, 111, 109, 101] : List Int32).getD j 0 := fun j hj =>
    match j, hj with
    | 0, _ => a60
    | 1, _ => a61
    | 2, _ => a62
    | 3, _ => a63
    | n + 4, h => absurd h (by omega)
  have s7c : ∀ j, j < 3 → m9.aI (G.sk 7) j = ([107, 101, 121] : List Int32).getD j 0 := fun j hj =>
    match j, hj with
    | 0, _ => a70
    | 1, _ => a71
    | 2, _ => a72
    | n + 3, h => absurd h (by omega)
  have hw := sp_law_start X9 hG hL hend hwf hJ hS s4t s4l s5t s5l s6t s6l s7t s7l s5c s6c s7c
  rw [hw9] at hw
  have hl := lv_entry ([.ref b]) (n := 4) (Nat.le_of_ble_eq_true rfl)
  rw [lg_entry_eq]
  rw [← sp_args_map ([.ref b]) 0] at hl
  have h9 := hw (Nat.le_refl _) (Nat.le_refl _) s.heap [] _ hH (fun q hq => by cases hq) ⟨hl, sp_args_cat ([.ref b]) 0⟩
  exact h9
