theorem sp_cl_inst : ∀ c, c < 14 → Cond.instantiable (sp_Cn c) (sp_Cl c) ∈ lw_tbl := by
  intro c hc
  match c, hc with
  | 0, _ => exact in_0
  | 1, _ => exact in_1
  | 2, _ => exact in_2
  | 3, _ => exact in_3
  | 4, _ => exact in_4
  | 5, _ => exact in_5
  | 6, _ => exact in_6
  | 7, _ => exact in_7
  | 8, _ => exact in_8
  | 9, _ => exact in_9
  | 10, _ => exact in_10
  | 11, _ => exact in_11
  | 12, _ => exact in_12
  | 13, _ => exact in_13
  | n + 14, h => exact absurd h (by omega)
theorem sp_kn {s : State} {b : Nat} (hts : ∀ w ∈ lw_tbl, w.before #[Value.ref b] s = true) : ∃ D : va_G, ∀ (c : Nat) (q : vw_C), vwCl[c]? = some q → u_Kn s q.1 q.2.1 q.2.2 (D.1 c) (D.2 c) := by
  have h : ∀ c : Nat, ∃ q : ClassId × (Nat → Nat), c < 14 → u_Kn s (sp_Cn c) (sp_Ct c) (sp_Cl c) q.1 q.2 := by
    intro c
    by_cases hc : c < 14
    · obtain ⟨cC, iS, h⟩ := u_known (C := sp_Cn c) (T := sp_Ct c) (N := sp_Cl c) hts (sp_cl_in c hc) (hts _ (sp_cl_inst c hc))
      exact ⟨(cC, iS), fun _ => h⟩
    · exact ⟨(0, fun _ => 0), fun z => absurd z hc⟩
  obtain ⟨f, hf⟩ := Classical.axiomOfChoice h
  refine ⟨(fun c => (f c).1, fun c => (f c).2), fun c q hq => ?_⟩
  have hc : c < 14 := (List.getElem?_eq_some_iff.mp hq).1
  have e := hq.symm.trans (sp_cl_get hc)
  cases e
  exact hf c hc
theorem sp_arr1 {s : State} {args : Array Value} {ty : FieldType} (h : (Cond.arrayClass ty).before args s = true) : ∃ cA : ClassId, ArrOfT s cA ty ∧ s.vm.findClass ("[" ++ ty.toString) = some cA := by
  obtain ⟨c, k, comp, h1, h2, h3⟩ := Cond.arrayClass_spec h
  exact ⟨c, fun n z => ⟨(fun k h => by cases h), k, h2, comp, h3⟩, h1⟩
theorem sp_arrO {s : State} {args : Array Value} {C : String} (h : (Cond.arrayOver (.object C)).before args s = true) : ∃ cA : ClassId, ArrOfT s cA (.object C) ∧ va_RA s cA (.object C) := by
  obtain ⟨comp, c, k, h1, -, h3, h4, h5⟩ := Cond.arrayOver_spec h
  exact ⟨c, fun n z => ⟨(fun k h => by cases h), k, h3, comp, h4⟩, k, comp, h3, h4, h1, h5⟩
/-- an old array, its length exact -/
theorem sp_Tx {args : Array Value} {s : State} {tm : Term} {ty : FieldType} {N : Nat} {f : Nat → Value} (hN : N < 2 ^ 31) (harr : (Cond.arrayOf tm ty).before args s = true) (hlen : (Cond.eq (.length tm) (.int (Int32.ofNat N))).before args s = true) (hel : ∀ j : Nat, j < N → (Term.elem tm (.int (Int32.ofNat j))).eval args s none [] s = some (f j)) : ∃ t : Nat, tm.eval args s none [] s = some (.ref t) ∧ ∃ cell : Cell, s.heap[t]? = some cell ∧ s.isArrayOf cell ty ∧ cell.vm ≠ .unknown ∧ cell.slots.size = N ∧ ∀ j : Nat, j < N → cell.slots[j]? = some (f j) := by
  obtain ⟨t, ht, cell, h1, h2, h3, h4, h5, h6, -⟩ := va_Tof (f := f) (A := fun _ => False) hN harr (va_eqt hlen) hel (fun _ _ z => z)
  refine ⟨t, ht, cell, h1, h2, h3, ?_, h6⟩
  have hv := va_eqt hlen
  obtain ⟨t2, cell2, q1, q2, -⟩ := Term.length_spec hv
  cases ht.symm.trans q1
  obtain ⟨q3, -, -, -⟩ := State.arrayAt?_spec q2
  cases h1.symm.trans q3
  have hsz : cell.slots.size < 2 ^ 31 := by
    simp only [Term.eval, ht, q2, Option.bind_eq_bind, Option.bind_some] at hv
    by_cases hlt : cell.slots.size < 2147483648
    · exact hlt
    · simp [hlt] at hv
  exact sp_neq h5 hsz hN
theorem sp_Xof {args : Array Value} {s : State} {tm : Term} {N : Nat} {f : Nat → Int32} (hN : N < 2 ^ 31) (harr : (Cond.arrayOf tm .int).before args s = true) (hlen : (Cond.eq (.length tm) (.int (Int32.ofNat N))).before args s = true) (hel : ∀ j : Nat, j < N → (Cond.eq (.elem tm (.int (Int32.ofNat j))) (.int (f j))).before args s = true) : ∃ t : Nat, tm.eval args s none [] s = some (.ref t) ∧ va_X t N f s s.heap := by
  obtain ⟨t, ht, cell, h1, h2, h3, h4, h5⟩ := sp_Tx (f := fun j => .int (f j)) hN harr hlen (fun j hj => va_eqt (hel j hj))
  exact ⟨t, ht, cell, h1, h2, h3, h4, h5⟩
theorem sp_Oof {args : Array Value} {s : State} {tm : Term} {N : Nat} (hN : N = 0) (harr : (Cond.arrayOf tm (.object "java/lang/Object")).before args s = true) (hlen : (Cond.eq (.length tm) (.int (Int32.ofNat N))).before args s = true) : ∃ t : Nat, tm.eval args s none [] s = some (.ref t) ∧ sp_O t N s s.heap := by
  obtain ⟨t, ht, cell, h1, h2, h3, h4, h5⟩ := sp_Tx (f := fun j => .null) (by omega) harr hlen (fun j hj => by omega)
  exact ⟨t, ht, cell, h1, h2, h3, h4⟩
/-- one address: one length, one content -/
theorem sp_Xone {a N N' : Nat} {f f' : Nat → Int32} {s : State} {H : Heap} (h : va_X a N f s H) (h' : va_X a N' f' s H) : N = N' ∧ ∀ j, j < N → f j = f' j := by
  obtain ⟨c, h1, -, -, h4, h5⟩ := h
  obtain ⟨c', g1, -, -, g4, g5⟩ := h'
  cases h1.symm.trans g1
  have e : N = N' := h4.symm.trans g4
  refine ⟨e, fun j hj => ?_⟩
  have e9 := (h5 j hj).symm.trans (g5 j (by omega))
  exact Value.int.inj (Option.some.inj e9)
theorem sp_Oone {a N N' : Nat} {s : State} {H : Heap} (h : sp_O a N s H) (h' : sp_O a N' s H) : N = N' := by
  obtain ⟨c, h1, -, -, h4⟩ := h
  obtain ⟨c', g1, -, -, g4⟩ := h'
  cases h1.symm.trans g1
  exact h4.symm.trans g4
theorem sp_XO {a N N' : Nat} {f : Nat → Int32} {s : State} {H : Heap} (h : va_X a N f s H) (h' : sp_O a N' s H) : False := by
  obtain ⟨c, h1, ⟨-, k, h3, comp, h4⟩, -⟩ := h
  obtain ⟨c', g1, ⟨-, k', g3, comp', g4⟩, -⟩ := h'
  cases h1.symm.trans g1
  cases h3.symm.trans g3
  have := h4.symm.trans g4
  cases this
/-- the old arrays, by their kinds -/
theorem sp_old (s : State) : ∃ (oty oln : Nat → Nat) (oI : Nat → Nat → Int32), (∀ a, (oty a = 24 → va_X a (oln a) (oI a) s s.heap) ∧ (oty a = 25 → sp_O a (oln a) s s.heap)) ∧ (∀ a, oty a ≠ 0 → a < s.heap.size ∧ (oty a = 24 ∨ oty a = 25)) ∧ (∀ a N f, va_X a N f s s.heap → oty a = 24 ∧ oln a = N ∧ ∀ j, j < N → oI a j = f j) ∧ (∀ a N, sp_O a N s s.heap → oty a = 25 ∧ oln a = N) := by
  have h : ∀ a : Nat, ∃ q : Nat × Nat × (Nat → Int32), (q.1 = 24 → va_X a q.2.1 q.2.2 s s.heap) ∧ (q.1 = 25 → sp_O a q.2.1 s s.heap) ∧ (q.1 ≠ 0 → a < s.heap.size ∧ (q.1 = 24 ∨ q.1 = 25)) ∧ (∀ N f, va_X a N f s s.heap → q.1 = 24 ∧ q.2.1 = N ∧ ∀ j, j < N → q.2.2 j = f j) ∧ (∀ N, sp_O a N s s.heap → q.1 = 25 ∧ q.2.1 = N) := by
    intro a
    by_cases h1 : ∃ q : Nat × (Nat → Int32), va_X a q.1 q.2 s s.heap
    · obtain ⟨q, hq⟩ := h1
      refine ⟨(24, q.1, q.2), fun _ => hq, fun z => absurd z (by show ¬ 24 = 25; decide), fun _ => ⟨?_, Or.inl rfl⟩, fun N f hf => ⟨rfl, (sp_Xone hq hf).1, fun j hj => (sp_Xone hq hf).2 j (by rw [(sp_Xone hq hf).1]; exact hj)⟩, fun N hN => (sp_XO hq hN).elim⟩
      obtain ⟨c, h2, -⟩ := hq
      exact (Array.getElem?_eq_some_iff.mp h2).1
    · by_cases h2 : ∃ N, sp_O a N s s.heap
      · obtain ⟨N, hN⟩ := h2
        refine ⟨(25, N, fun _ => 0), fun z => absurd z (by show ¬ 25 = 24; decide), fun _ => hN, fun _ => ⟨?_, Or.inr rfl⟩, fun N' f hf => (sp_XO hf hN).elim, fun N' hN' => ⟨rfl, sp_Oone hN hN'⟩⟩
        obtain ⟨c, h2, -⟩ := hN
        exact (Array.getElem?_eq_some_iff.mp h2).1
      · exact ⟨(0, 0, fun _ => 0), fun z => absurd z (by decide), fun z => absurd z (by decide), fun z => absurd rfl z, fun N f hf => absurd ⟨(N, f), hf⟩ h1, fun N hN => absurd ⟨N, hN⟩ h2⟩
  obtain ⟨q, hq⟩ := Classical.axiomOfChoice h
  exact ⟨fun a => (q a).1, fun a => (q a).2.1, fun a => (q a).2.2, fun a => ⟨(hq a).1, (hq a).2.1⟩, fun a => (hq a).2.2.1, fun a => (hq a).2.2.2.1, fun a => (hq a).2.2.2.2⟩
def sp_tm (i : Nat) : Term := .string "SafePaths$Name" ([60, 71, 77].getD i 0)
theorem sp_f1 : ∀ i, i < 3 → Cond.exactly (sp_tm i) "java/lang/String" ∈ flatC (Jvm.Cond.and given_1 narrow_1) := by decide +kernel
theorem sp_f2 : ∀ i, i < 3 → Cond.eq (.field (sp_tm i) "java/lang/String" "coder" "B") (.int 0) ∈ flatC (Jvm.Cond.and given_1 narrow_1) := by decide +kernel
theorem sp_f3 : ∀ i, i < 3 → Cond.arrayOf (.field (sp_tm i) "java/lang/String" "value" "[B") .byte ∈ flatC (Jvm.Cond.and given_1 narrow_1) := by decide +kernel
theorem sp_f4 : ∀ i, i < 3 → Cond.eq (.length (.field (sp_tm i) "java/lang/String" "value" "[B")) (.int (Int32.ofNat (sp_lens.getD i 0))) ∈ flatC (Jvm.Cond.and given_1 narrow_1) := by decide +kernel
theorem sp_f5 : ∀ i, i < 3 → ∀ j, j < sp_lens.getD i 0 → Cond.eq (.elem (.field (sp_tm i) "java/lang/String" "value" "[B") (.int (Int32.ofNat j))) (.int ((sp_byts.getD i []).getD j 0)) ∈ flatC (Jvm.Cond.and given_1 narrow_1) := by decide +kernel
theorem sp_f6 : ∀ i, i < 3 → ∀ j, j < 3 → i < j → Cond.not (Cond.eq (sp_tm i) (sp_tm j)) ∈ flatC (Jvm.Cond.and given_1 narrow_1) := by decide +kernel
theorem sp_s4a : Cond.arrayOf (.static "SafePaths" "NO_BYTES" "[I") .int ∈ flatC (Jvm.Cond.and given_1 narrow_1) := by decide +kernel
theorem sp_s4l : Cond.eq (.length (.static "SafePaths" "NO_BYTES" "[I")) (.int (Int32.ofNat 0)) ∈ flatC (Jvm.Cond.and given_1 narrow_1) := by decide +kernel
theorem sp_s4e : ∀ j, j < 0 → Cond.eq (.elem (.static "SafePaths" "NO_BYTES" "[I") (.int (Int32.ofNat j))) (.int (([] : List Int32).getD j 0)) ∈ flatC (Jvm.Cond.and given_1 narrow_1) := by decide +kernel
theorem sp_s5a : Cond.arrayOf (.static "SafePaths" "OUT" "[I") .int ∈ flatC (Jvm.Cond.and given_1 narrow_1) := by decide +kernel
theorem sp_s5l : Cond.eq (.length (.static "SafePaths" "OUT" "[I")) (.int (Int32.ofNat 3)) ∈ flatC (Jvm.Cond.and given_1 narrow_1) := by decide +kernel
theorem sp_s5e : ∀ j, j < 3 → Cond.eq (.elem (.static "SafePaths" "OUT" "[I") (.int (Int32.ofNat j))) (.int (([111, 117, 116] : List Int32).getD j 0)) ∈ flatC (Jvm.Cond.and given_1 narrow_1) := by decide +kernel
theorem sp_s6a : Cond.arrayOf (.static "SafePaths" "HOME" "[I") .int ∈ flatC (Jvm.Cond.and given_1 narrow_1) := by decide +kernel
theorem sp_s6l : Cond.eq (.length (.static "SafePaths" "HOME" "[I")) (.int (Int32.ofNat 4)) ∈ flatC (Jvm.Cond.and given_1 narrow_1) := by decide +kernel
theorem sp_s6e : ∀ j, j < 4 → Cond.eq (.elem (.static "SafePaths" "HOME" "[I") (.int (Int32.ofNat j))) (.int (([104, 111, 109, 101] : List Int32).getD j 0)) ∈ flatC (Jvm.Cond.and given_1 narrow_1) := by decide +kernel
theorem sp_s7a : Cond.arrayOf (.static "SafePaths" "KEY" "[I") .int ∈ flatC (Jvm.Cond.and given_1 narrow_1) := by decide +kernel
theorem sp_s7l : Cond.eq (.length (.static "SafePaths" "KEY" "[I")) (.int (Int32.ofNat 3)) ∈ flatC (Jvm.Cond.and given_1 narrow_1) := by decide +kernel
theorem sp_s7e : ∀ j, j < 3 → Cond.eq (.elem (.static "SafePaths" "KEY" "[I") (.int (Int32.ofNat j))) (.int (([107, 101, 121] : List Int32).getD j 0)) ∈ flatC (Jvm.Cond.and given_1 narrow_1) := by decide +kernel
theorem sp_s3a : Cond.arrayOf (.static "java/util/ArrayList" "DEFAULTCAPACITY_EMPTY_ELEMENTDATA" "[Ljava/lang/Object;") (.object "java/lang/Object") ∈ flatC (Jvm.Cond.and given_1 narrow_1) := by decide +kernel
theorem sp_s3l : Cond.eq (.length (.static "java/util/ArrayList" "DEFAULTCAPACITY_EMPTY_ELEMENTDATA" "[Ljava/lang/Object;")) (.int (Int32.ofNat 0)) ∈ flatC (Jvm.Cond.and given_1 narrow_1) := by decide +kernel
theorem sp_s8 : Cond.eq (.static "java/lang/String" "COMPACT_STRINGS" "Z") (.int 1) ∈ flatC (Jvm.Cond.and given_1 narrow_1) := by decide +kernel
theorem sp_s9 : Cond.isRef (.static "jdk/internal/util/Preconditions" "SIOOBE_FORMATTER" "Ljava/util/function/BiFunction;") ∈ flatC (Jvm.Cond.and given_1 narrow_1) := by decide +kernel
theorem sp_s10 : Cond.isRef (.mirror "[Ljava/lang/Object;") ∈ flatC (Jvm.Cond.and given_1 narrow_1) := by decide +kernel
theorem sp_t3 : Cond.laysStatic "java/util/ArrayList" "DEFAULTCAPACITY_EMPTY_ELEMENTDATA" "[Ljava/lang/Object;" ∈ lw_tbl := sp_tb1 _ (List.mem_of_getElem? (i := 92) (by decide +kernel))
theorem sp_t4 : Cond.laysStatic "SafePaths" "NO_BYTES" "[I" ∈ lw_tbl := sp_tb1 _ (List.mem_of_getElem? (i := 138) (by decide +kernel))
theorem sp_t5 : Cond.laysStatic "SafePaths" "OUT" "[I" ∈ lw_tbl := sp_tb1 _ (List.mem_of_getElem? (i := 209) (by decide +kernel))
theorem sp_t6 : Cond.laysStatic "SafePaths" "HOME" "[I" ∈ lw_tbl := sp_tb1 _ (List.mem_of_getElem? (i := 211) (by decide +kernel))
theorem sp_t7 : Cond.laysStatic "SafePaths" "KEY" "[I" ∈ lw_tbl := sp_tb1 _ (List.mem_of_getElem? (i := 213) (by decide +kernel))
theorem sp_t8 : Cond.laysStatic "java/lang/String" "COMPACT_STRINGS" "Z" ∈ lw_tbl := sp_tb3 _ (List.mem_of_getElem? (i := 28) (by decide +kernel))
theorem sp_t9 : Cond.laysStatic "jdk/internal/util/Preconditions" "SIOOBE_FORMATTER" "Ljava/util/function/BiFunction;" ∈ lw_tbl := sp_tb3 _ (List.mem_of_getElem? (i := 67) (by decide +kernel))
theorem sp_n0 : Cond.initialized "java/util/ArrayList" ∈ lw_tbl := sp_tb1 _ (List.mem_of_getElem? (i := 6) (by decide +kernel))
theorem sp_n1 : Cond.initialized "SafePaths" ∈ lw_tbl := sp_tb1 _ (List.mem_of_getElem? (i := 1) (by decide +kernel))
theorem sp_n2 : Cond.initialized "java/lang/String" ∈ lw_tbl := sp_tb1 _ (List.mem_of_getElem? (i := 20) (by decide +kernel))
theorem sp_n3 : Cond.initialized "jdk/internal/util/Preconditions" ∈ lw_tbl := sp_tb1 _ (List.mem_of_getElem? (i := 19) (by decide +kernel))
theorem sp_r0 : Cond.stringRef "SafePaths$Name" 60 ":*?\"<>|" ∈ lw_tbl := sp_tb3 _ (List.mem_of_getElem? (i := 14) (by decide +kernel))
theorem sp_r1 : Cond.stringRef "SafePaths$Name" 71 "conprnauxnul" ∈ lw_tbl := sp_tb3 _ (List.mem_of_getElem? (i := 105) (by decide +kernel))
theorem sp_r2 : Cond.stringRef "SafePaths$Name" 77 "comlpt" ∈ lw_tbl := sp_tb3 _ (List.mem_of_getElem? (i := 129) (by decide +kernel))
theorem sp_y_int : Cond.arrayClass .int ∈ lw_tbl := sp_tb1 _ (List.mem_of_getElem? (i := 78) (by decide +kernel))
theorem sp_y_long : Cond.arrayClass .long ∈ lw_tbl := sp_tb5 _ (List.mem_of_getElem? (i := 194) (by decide +kernel))
theorem sp_y_boolean : Cond.arrayClass .boolean ∈ lw_tbl := sp_tb5 _ (List.mem_of_getElem? (i := 193) (by decide +kernel))
theorem sp_y_o : Cond.arrayOver (.object "java/lang/Object") ∈ lw_tbl := sp_tb2 _ (List.mem_of_getElem? (i := 23) (by decide +kernel))
/-- all that is known at the law's entry -/
theorem sp_known {s : State} {b L : Nat} {xs : Nat → Int32} (hts : ∀ w ∈ lw_tbl, w.before #[Value.ref b] s = true) (hX : va_X b L xs s s.heap) (hgv : (Jvm.Cond.and given_1 narrow_1).before #[Value.ref b] s = true) : ∃ (G : sp_G) (m : sp_M) (ys : Nat → Int32), sp_K G s ∧ sp_GS G ∧ G.base = s.heap.size ∧ sp_H G m s.heap ∧ sp_wf m ∧ sp_J G (fun _ => False) sp_E0 m ∧ sp_SI m b L ys ∧ (∀ j, j < L → ys j = xs j) ∧ (m.ty (G.sk 4) = 24 ∧ m.ln (G.sk 4) = 0) ∧ (m.ty (G.sk 5) = 24 ∧ m.ln (G.sk 5) = 3 ∧ m.aI (G.sk 5) 0 = 111 ∧ m.aI (G.sk 5) 1 = 117 ∧ m.aI (G.sk 5) 2 = 116) ∧ (m.ty (G.sk 6) = 24 ∧ m.ln (G.sk 6) = 4 ∧ m.aI (G.sk 6) 0 = 104 ∧ m.aI (G.sk 6) 1 = 111 ∧ m.aI (G.sk 6) 2 = 109 ∧ m.aI (G.sk 6) 3 = 101) ∧ (m.ty (G.sk 7) = 24 ∧ m.ln (G.sk 7) = 3 ∧ m.aI (G.sk 7) 0 = 107 ∧ m.aI (G.sk 7) 1 = 101 ∧ m.aI (G.sk 7) 2 = 121) := by
  have hs := flat_of_before _ hgv
  have hA : ∀ a : Nat, a < s.heap.size → ¬ (fun q : Nat => s.heap.size ≤ q) a := fun a h1 h2 => Nat.not_le.mpr h1 h2
  obtain ⟨D, hD⟩ := sp_kn hts
  obtain ⟨yI, hyI, hyI2⟩ := sp_arr1 (hts _ sp_y_int)
  obtain ⟨yL, hyL, hyL2⟩ := sp_arr1 (hts _ sp_y_long)
  obtain ⟨yB, hyB, hyB2⟩ := sp_arr1 (hts _ sp_y_boolean)
  obtain ⟨yO, hyO, hyO2⟩ := sp_arrO (hts _ sp_y_o)
  obtain ⟨oty, oln, oI, ho1, ho2, ho3, ho4⟩ := sp_old s
  obtain ⟨k4, e4, x4⟩ := sp_Xof (f := fun j => ([] : List Int32).getD j 0) (by decide) (hs _ sp_s4a) (hs _ sp_s4l) (fun j hj => hs _ (sp_s4e j hj))
  obtain ⟨k5, e5, x5⟩ := sp_Xof (f := fun j => ([111, 117, 116] : List Int32).getD j 0) (by decide) (hs _ sp_s5a) (hs _ sp_s5l) (fun j hj => hs _ (sp_s5e j hj))
  obtain ⟨k6, e6, x6⟩ := sp_Xof (f := fun j => ([104, 111, 109, 101] : List Int32).getD j 0) (by decide) (hs _ sp_s6a) (hs _ sp_s6l) (fun j hj => hs _ (sp_s6e j hj))
  obtain ⟨k7, e7, x7⟩ := sp_Xof (f := fun j => ([107, 101, 121] : List Int32).getD j 0) (by decide) (hs _ sp_s7a) (hs _ sp_s7l) (fun j hj => hs _ (sp_s7e j hj))
  obtain ⟨k3, e3, x3⟩ := sp_Oof rfl (hs _ sp_s3a) (hs _ sp_s3l)
  obtain ⟨adK, adV, hS, hSe⟩ := vk_Sof (N := 3) (tm := sp_tm) (len := sp_lens) (byt := sp_byts) (A := fun q : Nat => s.heap.size ≤ q) (by decide) (fun i hi => hs _ (sp_f1 i hi)) (fun i hi => hs _ (sp_f2 i hi)) (fun i hi => hs _ (sp_f3 i hi)) (fun i hi => hs _ (sp_f4 i hi)) (fun i hi j hj => hs _ (sp_f5 i hi j hj)) (fun i j hi hj hne => by
    rcases Nat.lt_or_gt_of_ne hne with h | h
    · exact Or.inl (hs _ (sp_f6 i hi j hj h))
    · exact Or.inr (hs _ (sp_f6 j hj i hi h))) hA
  obtain ⟨mi, hmi⟩ := va_Mi.of (hs _ sp_s10)
  have hZq := va_Zqof (hts _ sp_t9) (hts _ sp_n3) (hs _ sp_s9) hA
  have z8 := va_Zof (hts _ sp_t8) (hts _ sp_n2) (va_eqt (hs _ sp_s8)) hA
  have z3 := va_Zof (hts _ sp_t3) (hts _ sp_n0) e3 hA
  have z4 := va_Zof (hts _ sp_t4) (hts _ sp_n1) e4 hA
  have z5 := va_Zof (hts _ sp_t5) (hts _ sp_n1) e5 hA
  have z6 := va_Zof (hts _ sp_t6) (hts _ sp_n1) e6 hA
  have z7 := va_Zof (hts _ sp_t7) (hts _ sp_n1) e7 hA
  have hsk : ∃ sk : Nat → Nat, (∀ i, i < 3 → sk i = adK i) ∧ sk 3 = k3 ∧ sk 4 = k4 ∧ sk 5 = k5 ∧ sk 6 = k6 ∧ sk 7 = k7 := ⟨fun i => if i < 3 then adK i else if i = 3 then k3 else if i = 4 then k4 else if i = 5 then k5 else if i = 6 then k6 else k7, fun i hi => if_pos hi, rfl, rfl, rfl, rfl, rfl⟩
  obtain ⟨sk, hk0, hk3, hk4, hk5, hk6, hk7⟩ := hsk
  obtain ⟨st, hst⟩ : ∃ st : List (String × String × String × Value), st = [("java/util/ArrayList", "DEFAULTCAPACITY_EMPTY_ELEMENTDATA", "[Ljava/lang/Object;", Value.ref k3), ("SafePaths", "NO_BYTES", "[I", Value.ref k4), ("SafePaths", "OUT", "[I", Value.ref k5), ("SafePaths", "HOME", "[I", Value.ref k6), ("SafePaths", "KEY", "[I", Value.ref k7), ("java/lang/String", "COMPACT_STRINGS", "Z", Value.int 1)] := ⟨_, rfl⟩
  obtain ⟨G, hGe⟩ : ∃ G : sp_G, G = (D, (yI, yL, yB, yO), s.heap.size, s.heap, oty, oln, oI, st, sk, adV, mi) := ⟨_, rfl⟩
  have gD : G.D = D := by rw [hGe]; rfl
  have gY : G.Y = (yI, yL, yB, yO) := by rw [hGe]; rfl
  have gb : G.base = s.heap.size := by rw [hGe]; rfl
  have gH : G.H0 = s.heap := by rw [hGe]; rfl
  have got : G.oty = oty := by rw [hGe]; rfl
  have gol : G.oln = oln := by rw [hGe]; rfl
  have goI : G.oI = oI := by rw [hGe]; rfl
  have gst : G.st = st := by rw [hGe]; rfl
  have gsk : G.sk = sk := by rw [hGe]; rfl
  have gsv : G.sv = adV := by rw [hGe]; rfl
  have gmi : G.mi = mi := by rw [hGe]; rfl
  have gA : sp_A G = fun q : Nat => s.heap.size ≤ q := by unfold sp_A; rw [gb]
  clear hGe
  have hK : sp_K G s := by
    unfold sp_K
    rw [gD, gY, gH, got, gol, goI, gst, gsk, gsv, gmi, gA, gb]
    refine ⟨⟨hD, ?_⟩, fun w hw hk => ?_, ho1, ?_, ⟨⟨?_, ?_⟩, ?_, ?_, ?_⟩, ⟨va_AO.of (hts _ sp_y_o), ?_, ?_, ?_⟩, hmi, hZq, fun q hq => hq⟩
    · intro k q hq
      match k, hq with
      | 0, hq => cases hq; exact ⟨hyI, hyI2⟩
      | 1, hq => cases hq; exact ⟨hyL, hyL2⟩
      | 2, hq => cases hq; exact ⟨hyB, hyB2⟩
      | 3, hq => cases hq; exact ⟨hyO, hyO2⟩
      | n + 4, hq => cases hq
    · have h1 : w.onTables = true := by
        unfold sp_wk at hk
        rw [Bool.and_eq_true] at hk
        exact hk.1
      exact va_any h1 (hts w hw)
    · intro z hz
      rw [hst] at hz
      rcases List.mem_cons.mp hz with rfl | hz
      · exact z3
      rcases List.mem_cons.mp hz with rfl | hz
      · exact z4
      rcases List.mem_cons.mp hz with rfl | hz
      · exact z5
      rcases List.mem_cons.mp hz with rfl | hz
      · exact z6
      rcases List.mem_cons.mp hz with rfl | hz
      · exact z7
      rcases List.mem_cons.mp hz with rfl | hz
      · exact z8
      cases hz
    · intro i hi
      rw [hk0 i hi]
      exact hS.1 i hi
    · intro i j hi hj e
      rw [hk0 i hi, hk0 j hj] at e
      exact hS.2 i j hi hj e
    · rw [hk0 0 (by decide)]
      exact vk_R.of (hts _ sp_r0) (hSe 0 (by decide))
    · rw [hk0 1 (by decide)]
      exact vk_R.of (hts _ sp_r1) (hSe 1 (by decide))
    · rw [hk0 2 (by decide)]
      exact vk_R.of (hts _ sp_r2) (hSe 2 (by decide))
    · exact fun args => hts _ sp_y_int
    · exact fun args => hts _ sp_y_long
    · exact fun args => hts _ sp_y_boolean
  obtain ⟨m, hm⟩ : ∃ m : sp_M, m = (s.heap.size, oty, oln, fun _ _ => 0, fun _ _ => 0, fun _ _ => none, oI, fun _ _ => 0, fun _ _ => none) := ⟨_, rfl⟩
  have mn : m.nx = s.heap.size := by rw [hm]; rfl
  have mt : m.ty = oty := by rw [hm]; rfl
  have ml : m.ln = oln := by rw [hm]; rfl
  have mI : m.aI = oI := by rw [hm]; rfl
  clear hm
  have hno : ∀ a k, 0 < k → k < 24 → m.ty a ≠ k := fun a k h1 h2 z => by
    rw [mt] at z
    have := (ho2 a (by omega)).2
    omega
  have k24 : ∀ a N f, va_X a N f s s.heap → m.ty a = 24 ∧ m.ln a = N ∧ ∀ j, j < N → m.aI a j = f j := fun a N f h => by rw [mt, ml, mI]; exact ho3 a N f h
  refine ⟨G, m, m.aI b, hK, ?_, gb, ⟨by rw [mn], by rw [gb, mn]; exact Nat.le_refl _, fun q hq => by rw [gH], fun a ha => Or.inl ?_⟩, fun a ha => by rw [mn]; rw [mt] at ha; exact (ho2 a ha).1, ⟨⟨?_, ?_⟩, fun a ha => absurd ha (hno a 1 (by decide) (by decide)), ?_, fun a ha => absurd ha (hno a 5 (by decide) (by decide)), fun a ha => absurd ha (hno a 6 (by decide) (by decide)), fun a ha => absurd ha (hno a 8 (by decide) (by decide)), fun a ha => absurd ha (hno a 4 (by decide) (by decide)), fun a ha => absurd ha (hno a 7 (by decide) (by decide))⟩, ⟨(k24 _ _ _ hX).1, (k24 _ _ _ hX).2.1, rfl⟩, (k24 _ _ _ hX).2.2, ?_, ?_, ?_, ?_⟩
  · unfold sp_GS
    rw [gst, gsk, hst, hk3, hk4, hk5, hk6, hk7]
    refine ⟨?_, ?_, ?_, ?_, ?_, ?_⟩
    · exact List.mem_cons_self
    · exact List.mem_cons_of_mem _ List.mem_cons_self
    · exact List.mem_cons_of_mem _ (List.mem_cons_of_mem _ List.mem_cons_self)
    · exact List.mem_cons_of_mem _ (List.mem_cons_of_mem _ (List.mem_cons_of_mem _ List.mem_cons_self))
    · exact List.mem_cons_of_mem _ (List.mem_cons_of_mem _ (List.mem_cons_of_mem _ (List.mem_cons_of_mem _ List.mem_cons_self)))
    · exact List.mem_cons_of_mem _ (List.mem_cons_of_mem _ (List.mem_cons_of_mem _ (List.mem_cons_of_mem _ (List.mem_cons_of_mem _ List.mem_cons_self))))
  · rw [mt] at ha
    rw [gb, got, gol, goI, mt, ml, mI]
    refine ⟨(ho2 a ha).1, ?_, rfl, rfl, fun j => rfl⟩
    have := (ho2 a ha).2
    omega
  · rw [gsk, hk3, mt]
    exact (ho4 _ _ x3).1
  · rw [gsk, hk3, ml]
    exact (ho4 _ _ x3).2
  · exact fun a b ed ha => absurd ha (hno a 1 (by decide) (by decide))
  · rw [gsk, hk4]
    exact ⟨(k24 _ _ _ x4).1, (k24 _ _ _ x4).2.1⟩
  · rw [gsk, hk5]
    exact ⟨(k24 _ _ _ x5).1, (k24 _ _ _ x5).2.1, (k24 _ _ _ x5).2.2 0 (by decide), (k24 _ _ _ x5).2.2 1 (by decide), (k24 _ _ _ x5).2.2 2 (by decide)⟩
  · rw [gsk, hk6]
    exact ⟨(k24 _ _ _ x6).1, (k24 _ _ _ x6).2.1, (k24 _ _ _ x6).2.2 0 (by decide), (k24 _ _ _ x6).2.2 1 (by decide), (k24 _ _ _ x6).2.2 2 (by decide), (k24 _ _ _ x6).2.2 3 (by decide)⟩
  · rw [gsk, hk7]
    exact ⟨(k24 _ _ _ x7).1, (k24 _ _ _ x7).2.1, (k24 _ _ _ x7).2.2 0 (by decide), (k24 _ _ _ x7).2.2 1 (by decide), (k24 _ _ _ x7).2.2 2 (by decide)⟩
