/-! WHAT IS KNOWN OF THE TABLES, at every state of the run -/
def sp_wk (w : Cond) : Bool := w.onTables && (w.keeps || match w with
  | .fieldLinkNest _ _ _ _ _ _ => true
  | .castable _ _ => true
  | .declares _ => true
  | _ => false)
theorem sp_wk_warm {w : Cond} (h : sp_wk w = true) {s U : State} (hW : s.WarmedH U.vm) (hw : va_Nw w s) : va_Nw w U := by
  unfold sp_wk at h
  rw [Bool.and_eq_true, Bool.or_eq_true] at h
  obtain ⟨h1, h2⟩ := h
  rcases h2 with h2 | h2
  · exact word_at (args := #[]) (a' := #[]) hW (Or.inl (by rw [h1, h2]; rfl)) hw
  · cases w with
    | fieldLinkNest => exact va_Nw.warmF hW hw
    | castable => exact va_Nw.warmC hW hw
    | declares => exact va_Nw.warmD hW hw
    | _ => simp at h2
abbrev sp_lens : List Nat := [7, 12, 6]
abbrev sp_byts : List (List Int32) := [[58, 42, 63, 34, 60, 62, 124], [99, 111, 110, 112, 114, 110, 97, 117, 120, 110, 117, 108], [99, 111, 109, 108, 112, 116]]
/-- an old array of references -/
def sp_O (a L : Nat) (U : State) (H : Heap) : Prop := ∃ cell : Cell, H[a]? = some cell ∧ U.isArrayOf cell (.object "java/lang/Object") ∧ cell.vm ≠ .unknown ∧ cell.slots.size = L
def sp_A (G : sp_G) : Nat → Prop := fun q => G.base ≤ q
def sp_K (G : sp_G) (U : State) : Prop := va_K G.D vwCl (sp_tys G.Y) U ∧ (∀ w ∈ lw_tbl, sp_wk w = true → va_Nw w U) ∧ (∀ a, (G.oty a = 24 → va_X a (G.oln a) (G.oI a) U G.H0) ∧ (G.oty a = 25 → sp_O a (G.oln a) U G.H0)) ∧ (∀ z ∈ G.st, va_Z z.1 z.2.1 z.2.2.1 z.2.2.2 (sp_A G) U G.H0) ∧ (vk_S 3 sp_lens sp_byts G.sk G.sv (sp_A G) U G.H0 ∧ vk_R "SafePaths$Name" 60 ":*?\"<>|" (G.sk 0) U ∧ vk_R "SafePaths$Name" 71 "conprnauxnul" (G.sk 1) U ∧ vk_R "SafePaths$Name" 77 "comlpt" (G.sk 2) U) ∧ (va_AO "java/lang/Object" U ∧ (∀ args, (Cond.arrayClass .int).before args U = true) ∧ (∀ args, (Cond.arrayClass .long).before args U = true) ∧ (∀ args, (Cond.arrayClass .boolean).before args U = true)) ∧ (va_Mi "[Ljava/lang/Object;" G.mi U ∧ va_Zq "jdk/internal/util/Preconditions" "SIOOBE_FORMATTER" "Ljava/util/function/BiFunction;" (sp_A G) U G.H0 ∧ ∀ q : Nat, q < G.base → q < G.H0.size)
theorem sp_O.moved {a L : Nat} {u U : State} {H : Heap} (hvm : u.vm.Alike U.vm) (h : sp_O a L u H) : sp_O a L U H := by
  obtain ⟨cell, h1, h2, h3⟩ := h
  exact ⟨cell, h1, State.isArrayOf_alike hvm h2, h3⟩
theorem sp_K.moved {G : sp_G} {s U : State} (hW : s.WarmedH U.vm) (h : sp_K G s) : sp_K G U := by
  have hA := hW.alike
  obtain ⟨h1, h2, h3, h4, ⟨h5, h5a, h5b, h5c⟩, ⟨h6, h6a, h6b, h6c⟩, h7, h7a, h7b⟩ := h
  refine ⟨va_K.moved hA h1, fun w hw hk => sp_wk_warm hk hW (h2 w hw hk), fun a => ⟨fun z => va_X.moved hA ((h3 a).1 z), fun z => sp_O.moved hA ((h3 a).2 z)⟩, fun z hz => va_Z.moved hA (h4 z hz), ⟨vk_S.moved hA h5, h5a.warm hW, h5b.warm hW, h5c.warm hW⟩, ⟨h6.moved hA, fun args => ?_, fun args => ?_, fun args => ?_⟩, va_Mi.moved hA h7, va_Zq.moved hA h7a, h7b⟩
  · exact word_at (args := args) hW (Or.inr ⟨_, rfl⟩) (h6a args)
  · exact word_at (args := args) hW (Or.inr ⟨_, rfl⟩) (h6b args)
  · exact word_at (args := args) hW (Or.inr ⟨_, rfl⟩) (h6c args)
theorem sp_WH_rf {U U' : State} (h : U'.vm = U.vm) : U.WarmedH U'.vm := by
  rw [h]
  exact State.WarmedH.refl U
theorem sp_K.w {G : sp_G} {U : State} (h : sp_K G U) {w : Cond} (hw : w ∈ lw_tbl) (hk : sp_wk w = true) (args : Array Value) : w.before args U = true := by
  have h1 : w.onTables = true := by
    unfold sp_wk at hk
    rw [Bool.and_eq_true] at hk
    exact hk.1
  exact va_Nw.use h1 (h.2.1 w hw hk)
theorem sp_apart {G : sp_G} {s : State} (h : sp_K G s) {c : Nat} (hc : c < 14) : ∀ x y, x < sp_Cl c → y < sp_Cl c → x ≠ y → (G.D.2 c) x ≠ (G.D.2 c) y := by
  intro x y hx hy hne
  obtain ⟨hS, -⟩ := h.1.1 c _ (sp_cl_get hc)
  obtain ⟨_, _, _, fa, hia, ea⟩ := hS x hx
  obtain ⟨_, _, _, fb, hib, eb⟩ := hS y hy
  rw [← ea, ← eb]
  have hl : ∀ k, k < sp_Cl c → (Cond.lays (sp_Cn c) (sp_Ct c k).1 (sp_Ct c k).2.1 (sp_Ct c k).2.2.1).before #[] s = true ∨ (Cond.laysFinal (sp_Cn c) (sp_Ct c k).1 (sp_Ct c k).2.1 (sp_Ct c k).2.2.1).before #[] s = true := by
    intro k hk
    have hm := sp_cl_in c hc _ (u_in_lay (C := sp_Cn c) (T := sp_Ct c) hk)
    unfold u_lay at hm
    split at hm
    · exact Or.inr (h.w hm rfl #[])
    · exact Or.inl (h.w hm rfl #[])
  refine u_apart (hl x hx) (hl y hy) hia hib ?_
  rw [(State.fieldFound?_type hia (sp_cl_ty c hc x hx)).1, (State.fieldFound?_type hib (sp_cl_ty c hc y hy)).1]
  exact sp_cl_nm c hc x hx y hy hne
theorem sp_lays {G : sp_G} {s : State} (h : sp_K G s) {c k : Nat} (hc : c < 14) (hk : k < sp_Cl c) (args : Array Value) : (Cond.lays (sp_Cn c) (sp_Ct c k).1 (sp_Ct c k).2.1 (sp_Ct c k).2.2.1).before args s = true ∨ (Cond.laysFinal (sp_Cn c) (sp_Ct c k).1 (sp_Ct c k).2.1 (sp_Ct c k).2.2.1).before args s = true := by
  have hm := sp_cl_in c hc _ (u_in_lay (C := sp_Cn c) (T := sp_Ct c) hk)
  unfold u_lay at hm
  split at hm
  · exact Or.inr (h.w hm rfl args)
  · exact Or.inl (h.w hm rfl args)
theorem sp_lay1 {G : sp_G} {s : State} (h : sp_K G s) {c k : Nat} (hc : c < 14) (hk : k < sp_Cl c) (args : Array Value) (hf : (sp_Ct c k).2.2.2 = false) : (Cond.lays (sp_Cn c) (sp_Ct c k).1 (sp_Ct c k).2.1 (sp_Ct c k).2.2.1).before args s = true := by
  have hm := sp_cl_in c hc _ (u_in_lay (C := sp_Cn c) (T := sp_Ct c) hk)
  unfold u_lay at hm
  rw [if_neg (by rw [hf]; decide)] at hm
  exact h.w hm rfl args
theorem sp_layF {G : sp_G} {s : State} (h : sp_K G s) {c k : Nat} (hc : c < 14) (hk : k < sp_Cl c) (args : Array Value) (hf : (sp_Ct c k).2.2.2 = true) : (Cond.laysFinal (sp_Cn c) (sp_Ct c k).1 (sp_Ct c k).2.1 (sp_Ct c k).2.2.1).before args s = true := by
  have hm := sp_cl_in c hc _ (u_in_lay (C := sp_Cn c) (T := sp_Ct c) hk)
  unfold u_lay at hm
  rw [if_pos hf] at hm
  exact h.w hm rfl args
