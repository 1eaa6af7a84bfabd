/-! ROWS OF NEW CELLS, STATICS, CASTS, CALLS; A METHOD'S CONTRACT AND ITS ENTRY -/
section SPC
variable {l : Launch} {G : sp_G} {own : String} {cc : ByteArray} {nL : Nat} {init : Bool} {ret : Option FieldType} {R : Room} {Qo : Option (Option Value → sp_M → Prop)} {w : sp_T}
variable {k n : Nat} {m : sp_M} {pc : Nat} {lv : sp_L} {rest : List Value}
theorem sp_e_newO {y : sp_Y} {c b : Nat} (hb : b ≠ m.nx) : sp_e y (m.newO c) b = sp_e y m b := by
  have h1 : (m.newO c).ty b = m.ty b := by rw [sp_newO_ty, if_neg hb]
  have h2 : ∀ d, sp_fs (m.newO c) d b = sp_fs m d b := fun d => by
    unfold sp_fs
    congr 1
    funext i t
    unfold sp_fv
    rw [sp_newO_fI, sp_newO_fL, sp_newO_fR, if_neg hb, if_neg hb, if_neg hb]
  unfold sp_e
  rw [h1, h2]
  rfl
theorem sp_e_newA {y : sp_Y} {t N b : Nat} (hb : b ≠ m.nx) : sp_e y (m.newA t N) b = sp_e y m b := by
  have h1 : (m.newA t N).ty b = m.ty b := by rw [sp_newA_ty, if_neg hb]
  have h2 : (m.newA t N).ln b = m.ln b := by rw [sp_newA_ln, if_neg hb]
  have h3 : (m.newA t N).aI b = m.aI b := by funext j; rw [sp_newA_aI, if_neg hb]
  have h4 : (m.newA t N).aL b = m.aL b := by funext j; rw [sp_newA_aL, if_neg hb]
  have h5 : (m.newA t N).aR b = m.aR b := by funext j; rw [sp_newA_aR, if_neg hb]
  unfold sp_e
  rw [h1, h2, h3, h4, h5]
  rfl
theorem sp_new (X : sp_X l G own cc nL init ret R Qo w) {c idx N : Nat} (hc : c < 14) (hN : sp_Cl c = N) (hcl : Cond.classLink own idx (sp_Cn c) ∈ lw_tbl) (hin : Cond.instantiable (sp_Cn c) N ∈ lw_tbl) (hit : Cond.initialized (sp_Cn c) ∈ lw_tbl) (hk : 1 ≤ k) (hn : N ≤ n) (hdg : decode cc pc = .ok (.new idx, 3)) (kk : w (k - 1) (n - N) (m.newO c) (pc + 3) lv (va_rf (some m.nx) :: rest)) : w k n m pc lv rest := by
  subst hN
  obtain ⟨p, e, s, mm, args, below, meth, cd, Q, hx, hb, hml, hown, hlocks, hret, hini, hK, hQ, rfl⟩ := X
  intro hk0 hn0 H locs ls hH hL hl
  obtain ⟨hS, hfc, kC', hkC', hkind⟩ := hK.1.1 c _ (sp_cl_get hc)
  refine W.newcK hx hb hown (hK.w hcl rfl _) (hK.w hin rfl _) (hK.w hit rfl _) rfl hdg (by omega) (by omega) hfc hH.1 fun H1 kC hkC e1 z1 o1 => ?_
  refine W.widen (k := R.cells - (k - 1)) (n := R.slots - (n - sp_Cl c)) (by omega) (by omega) ?_
  refine kk (by omega) (by omega) H1 locs ls (hH.new (by rw [z1, hH.1]) (fun q hq => o1 q (by rw [← hH.1]; exact hq)) rfl (fun b hb => by rw [sp_newO_ty, if_neg hb]) (fun b hb => rfl) (fun b hb => rfl) (fun b hb => sp_e_newO hb) (by rw [sp_newO_ty, if_pos rfl]; omega) ?_) hL hl
  rw [sp_e_obj (c := c) (by rw [sp_newO_ty, if_pos rfl]) hc]
  refine ⟨_, sp_cl_get hc, t_OB.to (V := fun j => defaultValue (sp_tyf c j)) ?_ (fun j hj => ?_)⟩
  · exact u_born (sp_tyf c) (ws := u_ws (sp_Cn c) (sp_Ct c) (sp_Cl c)) (args := #[]) (fun w hw => by
      have hw2 := sp_cl_in c hc w hw
      refine hK.w hw2 ?_ _
      unfold u_ws at hw
      obtain ⟨i, -, rfl⟩ := List.mem_map.mp hw
      unfold u_lay
      split <;> rfl) (fun w hw => hw) ⟨hS, hfc, kC', hkC', hkind⟩ hkC e1 (sp_cl_ty c hc)
  · show defaultValue (sp_tyf c j) = vp_V (sp_fs (m.newO c) c m.nx) j
    unfold vp_V
    rw [List.getD_eq_getElem?_getD]
    rcases sp_cl_ft c hc j hj with h | h | h
    · rw [sp_fs_get h.1]
      rcases h.2 with h2 | h2 <;> rw [h2] <;> simp [sp_fv, sp_newO_fI, defaultValue]
    · rw [sp_fs_get h.1, h.2]
      simp [sp_fv, sp_newO_fL, defaultValue]
    · rw [sp_fs_get h.1]
      have h2 := h.2
      cases hty : sp_tyf c j <;> rw [hty] at h2 <;> first | (cases h2; done) | simp [sp_fv, sp_newO_fR, defaultValue, va_rf]

theorem sp_newarrI (X : sp_X l G own cc nL init ret R Qo w) {j : Int32} {N : Nat} (h0 : ¬ j < 0) (hN : j.toNatClampNeg = N) (hs : N ≤ 1000000) (hk : 1 ≤ k) (hn : N ≤ n) (hdg : decode cc pc = .ok (.newarray .int, 2)) (kk : w (k - 1) (n - N) (m.newA 20 N) (pc + 2) lv (va_rf (some m.nx) :: rest)) : w k n m pc lv (.int j :: rest) := by
  obtain ⟨p, e, s, mm, args, below, meth, cd, Q, hx, hb, hml, hown, hlocks, hret, hini, hK, hQ, rfl⟩ := X
  intro hk0 hn0 H locs ls hH hL hl
  have hcb : componentBytes (Op.newarray.typeOf .int) = 4 := rfl
  have hby : N * componentBytes (Op.newarray.typeOf .int) ≤ 536870912 := by rw [hcb]; omega
  have hwd : (Cond.arrayClass (Op.newarray.typeOf .int)).before args s = true := hK.2.2.2.2.2.1.2.1 args
  refine va_newaK (atype := .int) (N := N) (n := j) hx hb hwd rfl hdg rfl h0 hN hby (by omega) (by omega) hH.1 fun H1 cA e1 z1 o1 hAr hNm => ?_
  have hRA : s.vm.findClass ("[" ++ (FieldType.int).toString) = some G.Y.1 := (hK.1.2 0 _ rfl).2
  have hto : Op.newarray.typeOf .int = FieldType.int := rfl
  rw [hto] at hNm
  have hcA : cA = G.Y.1 := Option.some.inj (hNm.symm.trans hRA)
  subst hcA
  refine W.widen (k := R.cells - (k - 1)) (n := R.slots - (n - N)) (by omega) (by omega) ?_
  refine kk (by omega) (by omega) H1 locs ls (hH.new (by rw [z1, hH.1]) (fun q hq => o1 q (by rw [← hH.1]; exact hq)) rfl (fun b hb => by rw [sp_newA_ty, if_neg hb]) (fun b hb => by rw [sp_newA_ln, if_neg hb]) (fun b hb => by funext i; rw [sp_newA_aI, if_neg hb]) (fun b hb => sp_e_newA hb) (by rw [sp_newA_ty, if_pos rfl]; omega) ?_) hL hl
  rw [sp_e_arrI (m := m.newA 20 N) (by rw [sp_newA_ty, if_pos rfl])]
  show H1[m.nx]? = some (vp_cell _ _)
  rw [e1, vp_cell_i, sp_newA_ln, if_pos rfl]
  congr 2
  funext i
  rw [sp_newA_aI, if_pos rfl]
  rfl
theorem sp_newarrL (X : sp_X l G own cc nL init ret R Qo w) {j : Int32} {N : Nat} (h0 : ¬ j < 0) (hN : j.toNatClampNeg = N) (hs : N ≤ 1000000) (hk : 1 ≤ k) (hn : N ≤ n) (hdg : decode cc pc = .ok (.newarray .long, 2)) (kk : w (k - 1) (n - N) (m.newA 21 N) (pc + 2) lv (va_rf (some m.nx) :: rest)) : w k n m pc lv (.int j :: rest) := by
  obtain ⟨p, e, s, mm, args, below, meth, cd, Q, hx, hb, hml, hown, hlocks, hret, hini, hK, hQ, rfl⟩ := X
  intro hk0 hn0 H locs ls hH hL hl
  have hcb : componentBytes (Op.newarray.typeOf .long) = 8 := rfl
  have hby : N * componentBytes (Op.newarray.typeOf .long) ≤ 536870912 := by rw [hcb]; omega
  have hwd : (Cond.arrayClass (Op.newarray.typeOf .long)).before args s = true := hK.2.2.2.2.2.1.2.2.1 args
  refine va_newaK (atype := .long) (N := N) (n := j) hx hb hwd rfl hdg rfl h0 hN hby (by omega) (by omega) hH.1 fun H1 cA e1 z1 o1 hAr hNm => ?_
  have hRA : s.vm.findClass ("[" ++ (FieldType.long).toString) = some G.Y.2.1 := (hK.1.2 1 _ rfl).2
  have hto : Op.newarray.typeOf .long = FieldType.long := rfl
  rw [hto] at hNm
  have hcA : cA = G.Y.2.1 := Option.some.inj (hNm.symm.trans hRA)
  subst hcA
  refine W.widen (k := R.cells - (k - 1)) (n := R.slots - (n - N)) (by omega) (by omega) ?_
  refine kk (by omega) (by omega) H1 locs ls (hH.new (by rw [z1, hH.1]) (fun q hq => o1 q (by rw [← hH.1]; exact hq)) rfl (fun b hb => by rw [sp_newA_ty, if_neg hb]) (fun b hb => by rw [sp_newA_ln, if_neg hb]) (fun b hb => by funext i; rw [sp_newA_aI, if_neg hb]) (fun b hb => sp_e_newA hb) (by rw [sp_newA_ty, if_pos rfl]; omega) ?_) hL hl
  rw [sp_e_arrL (m := m.newA 21 N) (by rw [sp_newA_ty, if_pos rfl])]
  show H1[m.nx]? = some (vp_cell _ _)
  rw [e1, vp_cell_l, sp_newA_ln, if_pos rfl]
  congr 2
  funext i
  rw [sp_newA_aL, if_pos rfl]
  rfl
theorem sp_newarrZ (X : sp_X l G own cc nL init ret R Qo w) {j : Int32} {N : Nat} (h0 : ¬ j < 0) (hN : j.toNatClampNeg = N) (hs : N ≤ 1000000) (hk : 1 ≤ k) (hn : N ≤ n) (hdg : decode cc pc = .ok (.newarray .boolean, 2)) (kk : w (k - 1) (n - N) (m.newA 22 N) (pc + 2) lv (va_rf (some m.nx) :: rest)) : w k n m pc lv (.int j :: rest) := by
  obtain ⟨p, e, s, mm, args, below, meth, cd, Q, hx, hb, hml, hown, hlocks, hret, hini, hK, hQ, rfl⟩ := X
  intro hk0 hn0 H locs ls hH hL hl
  have hcb : componentBytes (Op.newarray.typeOf .boolean) = 1 := rfl
  have hby : N * componentBytes (Op.newarray.typeOf .boolean) ≤ 536870912 := by rw [hcb]; omega
  have hwd : (Cond.arrayClass (Op.newarray.typeOf .boolean)).before args s = true := hK.2.2.2.2.2.1.2.2.2 args
  refine va_newaK (atype := .boolean) (N := N) (n := j) hx hb hwd rfl hdg rfl h0 hN hby (by omega) (by omega) hH.1 fun H1 cA e1 z1 o1 hAr hNm => ?_
  have hRA : s.vm.findClass ("[" ++ (FieldType.boolean).toString) = some G.Y.2.2.1 := (hK.1.2 2 _ rfl).2
  have hto : Op.newarray.typeOf .boolean = FieldType.boolean := rfl
  rw [hto] at hNm
  have hcA : cA = G.Y.2.2.1 := Option.some.inj (hNm.symm.trans hRA)
  subst hcA
  refine W.widen (k := R.cells - (k - 1)) (n := R.slots - (n - N)) (by omega) (by omega) ?_
  refine kk (by omega) (by omega) H1 locs ls (hH.new (by rw [z1, hH.1]) (fun q hq => o1 q (by rw [← hH.1]; exact hq)) rfl (fun b hb => by rw [sp_newA_ty, if_neg hb]) (fun b hb => by rw [sp_newA_ln, if_neg hb]) (fun b hb => by funext i; rw [sp_newA_aI, if_neg hb]) (fun b hb => sp_e_newA hb) (by rw [sp_newA_ty, if_pos rfl]; omega) ?_) hL hl
  rw [sp_e_arrZ (m := m.newA 22 N) (by rw [sp_newA_ty, if_pos rfl])]
  show H1[m.nx]? = some (vp_cell _ _)
  rw [e1, vp_cell_i, sp_newA_ln, if_pos rfl]
  congr 2
  funext i
  rw [sp_newA_aI, if_pos rfl]
  rfl
theorem sp_anewarray (X : sp_X l G own cc nL init ret R Qo w) {j : Int32} {N idx : Nat} (hcl : Cond.classLink own idx "java/lang/Object" ∈ lw_tbl) (h0 : ¬ j < 0) (hN : j.toNatClampNeg = N) (hs : N ≤ 1000000) (hk : 1 ≤ k) (hn : N ≤ n) (hdg : decode cc pc = .ok (.anewarray idx, 3)) (kk : w (k - 1) (n - N) (m.newA 23 N) (pc + 3) lv (va_rf (some m.nx) :: rest)) : w k n m pc lv (.int j :: rest) := by
  subst hN
  obtain ⟨p, e, s, mm, args, below, meth, cd, Q, hx, hb, hml, hown, hlocks, hret, hini, hK, hQ, rfl⟩ := X
  intro hk0 hn0 H locs ls hH hL hl
  refine W.anew hx hb hown (hK.w hcl rfl _) (va_AO.use hK.2.2.2.2.2.1.1) rfl hdg rfl h0 (by omega) (by omega) (by omega) fun cA kA comp f1 f2 f3 f4 => ?_
  have hcA : cA = G.Y.2.2.2 := by
    obtain ⟨kA', comp', g1, g2, g3, g4⟩ := (hK.1.2 3 _ rfl).2
    exact Option.some.inj (f1.symm.trans g4)
  subst hcA
  have hz := hH.1
  refine W.widen (k := R.cells - (k - 1)) (n := R.slots - (n - j.toNatClampNeg)) (by omega) (by omega) ?_
  rw [hz]
  generalize hH1 : H.push ({ cls := G.Y.2.2.2, slots := Array.replicate j.toNatClampNeg .null, vm := .none } : Cell) = H1
  have z1 : H1.size = H.size + 1 := by rw [← hH1, Array.size_push]
  have e1 : H1[m.nx]? = some (arrV G.Y.2.2.2 j.toNatClampNeg (fun _ => .null)) := by rw [← hH1, ← hz, Array.getElem?_push_size, ← arrV_new]
  have o1 : ∀ q : Nat, q < H.size → H1[q]? = H[q]? := fun q hq => by rw [← hH1, Array.getElem?_push, if_neg (Nat.ne_of_lt hq)]
  refine kk (by omega) (by omega) H1 locs ls (hH.new z1 o1 rfl (fun b hb => by rw [sp_newA_ty, if_neg hb]) (fun b hb => by rw [sp_newA_ln, if_neg hb]) (fun b hb => by funext i; rw [sp_newA_aI, if_neg hb]) (fun b hb => sp_e_newA hb) (by rw [sp_newA_ty, if_pos rfl]; omega) ?_) hL hl
  rw [sp_e_arrR (m := m.newA 23 j.toNatClampNeg) (by rw [sp_newA_ty, if_pos rfl])]
  show H1[m.nx]? = some (vp_cell _ _)
  rw [e1, vp_cell_q, sp_newA_ln, if_pos rfl]
  congr 2
  funext i
  rw [sp_newA_aR, if_pos rfl]
  rfl
theorem sp_getstatic (X : sp_X l G own cc nL init ret R Qo w) {C nm ds : String} {idx : Nat} {v : Value} (hz : (C, nm, ds, v) ∈ G.st) (hl0 : Cond.fieldLink own idx C nm ds ∈ lw_tbl ∨ ∃ host, Cond.fieldLinkNest own idx C nm ds host ∈ lw_tbl) (hdg : decode cc pc = .ok (.getstatic idx, 3)) (kk : w k n m (pc + 3) lv (v :: rest)) : w k n m pc lv rest := by
  obtain ⟨p, e, s, mm, args, below, meth, cd, Q, hx, hb, hml, hown, hlocks, hret, hini, hK, hQ, rfl⟩ := X
  intro hk0 hn0 H locs ls hH hL hl
  have hZ := hK.2.2.2.1 _ hz
  obtain ⟨cf, kf, fi, f, a, cell, h1, h2, h3, h4, h5, h6, h7, h8⟩ := hZ
  have hlt : a < G.base := Nat.not_le.mp h8
  have hc : H[a]? = some cell := by rw [hH.2.2.1 a hlt]; exact h5
  rcases hl0 with h0 | ⟨host, h0⟩
  · exact W.gets hx hb hown (hK.w h0 rfl _) h1 h2 h3 h4 hc (fun e => by rw [e] at h6; cases h6) h7 rfl hdg (kk hk0 hn0 H locs ls hH hL hl)
  · exact va_WgetsN hx hb hown (hK.w h0 rfl _) h1 h2 h3 h4 hc (fun e => by rw [e] at h6; cases h6) h7 rfl hdg (kk hk0 hn0 H locs ls hH hL hl)
theorem sp_recv {s : State} {H : Heap} (hK : sp_K G s) (hH : sp_H G m H) {a c : Nat} (hty : m.ty a = c + 1) (hc : c < 14) : ∃ cell : Cell, H[a]? = some cell ∧ cell.vm.isStatics = false ∧ s.vm.findClass (sp_Cn c) = some cell.cls := by
  obtain ⟨hb, cell, q1, q2, q3, q4⟩ := hH.obj hty hc
  exact ⟨cell, q1, by rw [q3]; rfl, by rw [q2]; exact (hK.1.1 c _ (sp_cl_get hc)).2.1⟩
theorem sp_checkcast (X : sp_X l G own cc nL init ret R Qo w) {r : Option Nat} {a c idx : Nat} (hr : r = some a) (hty : m.ty a = c + 1) (hc : c < 14) (hcl : Cond.classLink own idx (sp_Cn c) ∈ lw_tbl) (hdg : decode cc pc = .ok (.checkcast idx, 3)) (kk : w k n m (pc + 3) lv (va_rf r :: rest)) : w k n m pc lv (va_rf r :: rest) := by
  subst hr
  obtain ⟨p, e, s, mm, args, below, meth, cd, Q, hx, hb, hml, hown, hlocks, hret, hini, hK, hQ, rfl⟩ := X
  intro hk0 hn0 H locs ls hH hL hl
  exact va_castS (cC := G.D.1 c) hx hb hown (hK.w hcl rfl _) (hK.1.1 c _ (sp_cl_get hc)).2 (sp_recv hK hH hty hc) hdg (kk hk0 hn0 H locs ls hH hL hl)
theorem sp_objInit (X : sp_X l G own cc nL init ret R Qo w) {r : Option Nat} {a idx : Nat} (hr : r = some a) (hcl : Cond.methodLink own idx Lib.objectInit ∈ lw_tbl) (h1 : Cond.instanceMethod Lib.objectInit ∈ lw_tbl) (h2 : Cond.code Lib.objectInit ⟨#[0xb1]⟩ 1 none ∈ lw_tbl) (hf : 1 ≤ R.frames) (hlo : (rest.map fun v => v.category).sum + 12 ≤ R.locals) (hdg : decode cc pc = .ok (.invokespecial idx, 3)) (kk : w k n m (pc + 3) lv rest) : w k n m pc lv (va_rf r :: rest) := by
  subst hr
  obtain ⟨p, e, s, mm, args, below, meth, cd, Q, hx, hb, hml, hown, hlocks, hret, hini, hK, hQ, rfl⟩ := X
  intro hk0 hn0 H locs ls hH hL hl
  refine W.objInit hx hb hown (hK.w hcl rfl _) (hK.w h1 rfl _) (hK.w h2 rfl _) rfl (by rw [hml]; exact hl.1.1) rfl hdg hf ?_ (kk hk0 hn0 H locs ls hH hL hl)
  show 2 * 0 + _ + 12 ≤ _
  omega
/-- a method: its name, its code, its locals, what it returns; frames and locals' words below it -/
abbrev sp_Me : Type := MethodName × ByteArray × Nat × Option FieldType × Nat × Nat
/-- a method's contract: from arguments av and a memory m, with mc cells and ms slots left -/
def sp_C (l : Launch) (G : sp_G) (Y : sp_Me) (mc ms : Nat) (av : List Value) (m : sp_M) (post : Option Value → sp_M → Prop) : Prop := Met l Y.1 [Cond.code Y.1 Y.2.1 Y.2.2.1 Y.2.2.2.1] ({ frames := Y.2.2.2.2.1, cells := mc, slots := ms, locals := Y.2.2.2.2.2 }) (va_Pc av (fun U => sp_K G U ∧ sp_H G m U.heap)) (sp_Q G post) mc ms (sp_A G)
def sp_args : Nat → List Value → sp_L
  | _, [] => []
  | i, v :: r => (i, Nat.beq v.category 2, v) :: sp_args (if v.category = 2 then i + 2 else i + 1) r
theorem sp_args_map : ∀ (av : List Value) (i : Nat), (sp_args i av).map (fun q => (q.1, q.2.2)) = lv_args i av
  | [], _ => rfl
  | v :: r, i => by
    show (i, v) :: (sp_args (if v.category = 2 then i + 2 else i + 1) r).map (fun q => (q.1, q.2.2)) = lv_args i (v :: r)
    rw [sp_args_map r, lv_args]
theorem sp_args_cat : ∀ (av : List Value) (i : Nat), ∀ q ∈ sp_args i av, (q.2.1 = true ↔ q.2.2.category = 2)
  | [], _, q, h => by cases h
  | v :: r, i, q, h => by
    rcases List.mem_cons.mp h with rfl | h
    · show Nat.beq v.category 2 = true ↔ v.category = 2
      constructor
      · exact Nat.eq_of_beq_eq_true
      · intro h; rw [h]; rfl
    · exact sp_args_cat r _ q h
theorem sp_enter {Y : sp_Me} {mc ms : Nat} {av : List Value} {post : Option Value → sp_M → Prop} {lv0 : sp_L} (own : String) (init : Bool) (hown : Y.1.cls = own) (hpl : plainName Y.1.cls = true) (hi : init = true → Y.1.name = "<init>") (hav : (lg_sl av).length ≤ Y.2.2.1) (hlv : sp_args 0 av = lv0) (body : ∀ w : sp_T, sp_X l G own Y.2.1 Y.2.2.1 init Y.2.2.2.1 ({ frames := Y.2.2.2.2.1, cells := mc, slots := ms, locals := Y.2.2.2.2.2 }) (some post) w → w mc ms m 0 lv0 []) : sp_C l G Y mc ms av m post := by
  refine Met.ofW (cc := Y.2.1) (maxL := Y.2.2.1) (ret := Y.2.2.2.1) hpl rfl ?_
  intro p e s mm args below meth c s₁ B hml hv
  obtain ⟨rfl, hK, hH⟩ := hv
  subst hown
  have hX : sp_X l G Y.1.cls Y.2.1 Y.2.2.1 init Y.2.2.2.1 ({ frames := Y.2.2.2.2.1, cells := mc, slots := ms, locals := Y.2.2.2.2.2 }) (some post) (sp_w G p l e ({ frames := Y.2.2.2.2.1, cells := mc, slots := ms, locals := Y.2.2.2.2.2 }) s mm av.toArray below meth c (MQ below (sp_Q G post) av.toArray s mc ms (sp_A G)) Y.2.2.1) :=
    ⟨p, e, s, mm, av.toArray, below, meth, c, _, B.exec, B.bytes, hml, findClass_of_methodNamed B.named, B.notSynchronized, B.returns, fun h => ((name_of_methodNamed B.named B.method).1).trans (hi h), hK, fun post' h => by cases h; rfl, rfl⟩
  have hw := body _ hX (Nat.le_refl _) (Nat.le_refl _) s.heap [] ((lg_sl av ++ List.replicate (Y.2.2.1 - (lg_sl av).length) Slot.unset).toArray) hH (fun q hq => by cases hq) (by
    subst hlv
    have := lv_entry av (n := Y.2.2.1) hav
    rw [← sp_args_map av 0] at this
    exact ⟨this, sp_args_cat av 0⟩)
  rw [lg_entry_eq]
  have e1 : ({ frames := Y.2.2.2.2.1, cells := mc, slots := ms, locals := Y.2.2.2.2.2 } : Room).cells - mc = 0 := Nat.sub_self mc
  have e2 : ({ frames := Y.2.2.2.2.1, cells := mc, slots := ms, locals := Y.2.2.2.2.2 } : Room).slots - ms = 0 := Nat.sub_self ms
  rw [e1, e2] at hw
  exact hw
/-- what the tables say of a callee -/
def sp_okB (Y : sp_Me) (np : Nat) : Prop := Cond.code Y.1 Y.2.1 Y.2.2.1 Y.2.2.2.1 ∈ lw_tbl ∧ Cond.initialized Y.1.cls ∈ lw_tbl ∧ (Y.1.cls ≠ "java/lang/invoke/MethodHandle" ∧ Y.1.cls ≠ "java/lang/invoke/VarHandle") ∧ (parseMethodDescriptor Y.1.desc).map (fun d => d.parameters.length) = some np
def sp_okV (Y : sp_Me) (np : Nat) : Prop := sp_okB Y np ∧ Cond.instanceMethod Y.1 ∈ lw_tbl ∧ Cond.selects Y.1.cls Y.1 Y.1 ∈ lw_tbl
def sp_okS (Y : sp_Me) (np : Nat) : Prop := sp_okB Y np ∧ Cond.static Y.1 ∈ lw_tbl
def sp_okI (Y : sp_Me) (np : Nat) : Prop := sp_okB Y np ∧ Y.1.name = "<init>" ∧ Cond.instanceMethod Y.1 ∈ lw_tbl
theorem sp_callB {s : State} {args : Array Value} {Y : sp_Me} {mc ms np idx : Nat} (hK : sp_K G s) (ho : sp_okB Y np) (hl : Cond.methodLink own idx Y.1 ∈ lw_tbl) (hf : Y.2.2.2.2.1 + 1 ≤ R.frames) (hlo : 8 + (Y.2.2.1 + 11) + Y.2.2.2.2.2 ≤ R.locals) : CallB R s args own idx Y.1 Y.2.1 Y.2.2.1 Y.2.2.2.1 [Cond.code Y.1 Y.2.1 Y.2.2.1 Y.2.2.2.1] ({ frames := Y.2.2.2.2.1, cells := mc, slots := ms, locals := Y.2.2.2.2.2 }) mc ms np := by
  refine ⟨rfl, rfl, hf, hlo, fun w hw a' U hW => ?_, List.mem_cons_self, hK.w ho.1 rfl _, hK.w ho.2.1 rfl _, ho.2.2.1, fun sig h => ?_, hK.w hl rfl _⟩
  · rw [List.mem_singleton.mp hw]
    exact (hK.moved hW).w ho.1 rfl _
  · have h2 := ho.2.2.2
    rw [h] at h2
    exact (Option.some.inj h2).symm
theorem sp_blind {av : List Value} : FrameBlind (va_Pc av (fun U => sp_K G U ∧ sp_H G m U.heap)) := fun a U g mk h => ⟨h.1, sp_K.moved (sp_WH_rf (U := U) (U' := U.calling g mk a) rfl) h.2.1, h.2.2⟩
theorem sp_after (X : sp_X l G own cc nL init ret R Qo w) {Y : sp_Me} {mc ms : Nat} {st0 av : List Value} {post : Option Value → sp_M → Prop} (hk : mc ≤ k) (hn : ms ≤ n) (kk : ∀ r m', post r m' → w (k - mc) (n - ms) m' (pc + 3) lv (r.toList ++ rest))
    (run : ∀ (p : Program) (e : Env) (s : State) (mm : MethodId) (args : Array Value) (below : List Frame) (meth : Method) (cd : Code) (H : Heap) (locs : List Loc) (ls : Array Slot), p.tables.exec = Jvm.exec → cd.code = cc → cd.maxLocals = nL → s.vm.findClass own = some mm.cls → sp_K G s → sp_H G m H → sp_lv ls nL lv → k ≤ R.cells → n ≤ R.slots → va_Run p l e R s mm args below meth cd H locs (R.cells - k) (R.slots - n) mc ms (F0 mm pc ls st0) rest (sp_Q G post av.toArray) (sp_A G)) : w k n m pc lv st0 := by
  obtain ⟨p, e, s, mm, args, below, meth, cd, Q, hx, hb, hml, hown, hlocks, hret, hini, hK, hQ, rfl⟩ := X
  intro hk0 hn0 H locs ls hH hL hl
  have hr := run p e s mm args below meth cd H locs ls hx hb hml hown hK hH hl hk0 hn0
  intro T hT Xs
  obtain ⟨v, st₀, t, T', L, h0, X', hL', e1, e2, ⟨r, m', hv, hH', hp⟩, st⟩ := hr T hT Xs
  cases hv
  obtain ⟨t2, a1, b1⟩ := (W.widen (k := R.cells - (k - mc)) (n := R.slots - (n - ms)) (by omega) (by omega) (kk v m' hp (by omega) (by omega) T'.heap (locs ++ L) ls (by rw [e1]; exact hH') (fun q hq => by
    rcases List.mem_append.mp hq with h | h
    · exact hL q h
    · exact hL' q h) hl)) T' rfl X'
  exact ⟨t2, st t2 a1, b1⟩
theorem sp_callV (X : sp_X l G own cc nL init ret R Qo w) {Y : sp_Me} {mc ms np idx b c : Nat} {r : Option Nat} {As st0 : List Value} {post : Option Value → sp_M → Prop} (hC : sp_C l G Y mc ms (.ref b :: As) m post) (ho : sp_okV Y np) (hr : r = some b) (hty : m.ty b = c + 1) (hc : c < 14) (hcn : sp_Cn c = Y.1.cls) (hl : Cond.methodLink own idx Y.1 ∈ lw_tbl) (hnp : As.length = np) (hst : st0 = As.reverse ++ va_rf r :: rest) (hcat : (rest.map fun v => v.category).sum ≤ 8) (hf : Y.2.2.2.2.1 + 1 ≤ R.frames) (hlo : 8 + (Y.2.2.1 + 11) + Y.2.2.2.2.2 ≤ R.locals) (hk : mc ≤ k) (hn : ms ≤ n) (hdg : decode cc pc = .ok (.invokevirtual idx, 3)) (kk : ∀ r m', post r m' → w (k - mc) (n - ms) m' (pc + 3) lv (r.toList ++ rest)) : w k n m pc lv st0 := by
  subst hr
  subst hst
  refine sp_after (av := .ref b :: As) (post := post) (Y := Y) X hk hn kk ?_
  intro p e s mm args below meth cd H locs ls hx hb hml hown hK hH hlv hk0 hn0
  refine va_runV (Ts := []) ⟨hx, hb, hml, hown, fun w hw => by cases hw⟩ hC ⟨sp_callB hK ho.1 hl hf hlo, hK.w ho.2.1 rfl _, hK.w ho.2.2 rfl _⟩ ⟨sp_blind, ?_, fun U hU hW => ⟨rfl, hK.moved hW, by rw [hU]; exact hH⟩⟩ rfl hnp hlv.1.1 rfl ?_ hdg ⟨by omega, by omega⟩
  · rw [← hcn]
    exact sp_recv hK hH hty hc
  · show 2 * 0 + _ ≤ 8
    omega
theorem sp_callS (X : sp_X l G own cc nL init ret R Qo w) {Y : sp_Me} {mc ms np idx : Nat} {As st0 : List Value} {post : Option Value → sp_M → Prop} (hC : sp_C l G Y mc ms As m post) (ho : sp_okS Y np) (hl : Cond.methodLink own idx Y.1 ∈ lw_tbl) (hnp : As.length = np) (hst : st0 = As.reverse ++ rest) (hcat : (rest.map fun v => v.category).sum ≤ 8) (hf : Y.2.2.2.2.1 + 1 ≤ R.frames) (hlo : 8 + (Y.2.2.1 + 11) + Y.2.2.2.2.2 ≤ R.locals) (hk : mc ≤ k) (hn : ms ≤ n) (hdg : decode cc pc = .ok (.invokestatic idx, 3)) (kk : ∀ r m', post r m' → w (k - mc) (n - ms) m' (pc + 3) lv (r.toList ++ rest)) : w k n m pc lv st0 := by
  subst hst
  refine sp_after (av := As) (post := post) (Y := Y) X hk hn kk ?_
  intro p e s mm args below meth cd H locs ls hx hb hml hown hK hH hlv hk0 hn0
  refine va_runS (Ts := []) ⟨hx, hb, hml, hown, fun w hw => by cases hw⟩ hC ⟨sp_callB hK ho.1 hl hf hlo, hK.w ho.2 rfl _⟩ ⟨sp_blind, fun U hU hW => ⟨rfl, hK.moved hW, by rw [hU]; exact hH⟩⟩ rfl hnp hlv.1.1 rfl ?_ hdg ⟨by omega, by omega⟩
  show 2 * 0 + _ ≤ 8
  omega
theorem sp_callI (X : sp_X l G own cc nL init ret R Qo w) {Y : sp_Me} {mc ms np idx b : Nat} {r : Option Nat} {As st0 : List Value} {post : Option Value → sp_M → Prop} (hC : sp_C l G Y mc ms (.ref b :: As) m post) (ho : sp_okI Y np) (hrt : Y.2.2.2.1 = none) (hr : r = some b) (hl : Cond.methodLink own idx Y.1 ∈ lw_tbl) (hnp : As.length = np) (hst : st0 = As.reverse ++ va_rf r :: rest) (hcat : (rest.map fun v => v.category).sum ≤ 8) (hf : Y.2.2.2.2.1 + 1 ≤ R.frames) (hlo : 8 + (Y.2.2.1 + 11) + Y.2.2.2.2.2 ≤ R.locals) (hk : mc ≤ k) (hn : ms ≤ n) (hdg : decode cc pc = .ok (.invokespecial idx, 3)) (kk : ∀ r m', post r m' → w (k - mc) (n - ms) m' (pc + 3) lv (r.toList ++ rest)) : w k n m pc lv st0 := by
  subst hr
  subst hst
  refine sp_after (av := .ref b :: As) (post := post) (Y := Y) X hk hn kk ?_
  intro p e s mm args below meth cd H locs ls hx hb hml hown hK hH hlv hk0 hn0
  have hB : CallB R s args own idx Y.1 Y.2.1 Y.2.2.1 none [Cond.code Y.1 Y.2.1 Y.2.2.1 Y.2.2.2.1] ({ frames := Y.2.2.2.2.1, cells := mc, slots := ms, locals := Y.2.2.2.2.2 }) mc ms np := by
    have h9 := sp_callB (R := R) (s := s) (args := args) (mc := mc) (ms := ms) hK ho.1 hl hf hlo
    rw [hrt] at h9 ⊢
    exact h9
  refine va_runI (Ts := []) ⟨hx, hb, hml, hown, fun w hw => by cases hw⟩ hC ⟨hB, ho.2.1, hK.w ho.2.2 rfl _⟩ ⟨sp_blind, fun U hU hW => ⟨rfl, hK.moved hW, by rw [hU]; exact hH⟩⟩ rfl hnp hlv.1.1 rfl ?_ hdg ⟨by omega, by omega⟩
  show 2 * 0 + _ ≤ 8
  omega
end SPC
