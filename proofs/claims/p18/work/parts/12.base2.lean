def sp_oI (P : Int32 → sp_M → Prop) : Option Value → sp_M → Prop := fun r m' => ∃ v, r = some (.int v) ∧ P v m'
def sp_oL (P : Int64 → sp_M → Prop) : Option Value → sp_M → Prop := fun r m' => ∃ v, r = some (.long v) ∧ P v m'
def sp_oR (P : Option Nat → sp_M → Prop) : Option Value → sp_M → Prop := fun r m' => ∃ v, r = some (va_rf v) ∧ P v m'
def sp_oV (P : sp_M → Prop) : Option Value → sp_M → Prop := fun r m' => r = none ∧ P m'
theorem sp_kI {w : sp_T} {k n pc : Nat} {lv : sp_L} {rest : List Value} {P : Int32 → sp_M → Prop} (h : ∀ v m', P v m' → w k n m' pc lv (.int v :: rest)) : ∀ r m', sp_oI P r m' → w k n m' pc lv (r.toList ++ rest) := by
  rintro r m' ⟨v, rfl, hp⟩
  exact h v m' hp
theorem sp_kL {w : sp_T} {k n pc : Nat} {lv : sp_L} {rest : List Value} {P : Int64 → sp_M → Prop} (h : ∀ v m', P v m' → w k n m' pc lv (.long v :: rest)) : ∀ r m', sp_oL P r m' → w k n m' pc lv (r.toList ++ rest) := by
  rintro r m' ⟨v, rfl, hp⟩
  exact h v m' hp
theorem sp_kR {w : sp_T} {k n pc : Nat} {lv : sp_L} {rest : List Value} {P : Option Nat → sp_M → Prop} (h : ∀ v m', P v m' → w k n m' pc lv (va_rf v :: rest)) : ∀ r m', sp_oR P r m' → w k n m' pc lv (r.toList ++ rest) := by
  rintro r m' ⟨v, rfl, hp⟩
  exact h v m' hp
theorem sp_kV {w : sp_T} {k n pc : Nat} {lv : sp_L} {rest : List Value} {P : sp_M → Prop} (h : ∀ m', P m' → w k n m' pc lv rest) : ∀ r m', sp_oV P r m' → w k n m' pc lv (r.toList ++ rest) := by
  rintro r m' ⟨rfl, hp⟩
  exact h m' hp
/-- every cell lies below the next address -/
def sp_wf (m : sp_M) : Prop := ∀ a, m.ty a ≠ 0 → a < m.nx
theorem sp_fresh {l : Launch} {G : sp_G} {own : String} {cc : ByteArray} {nL : Nat} {init : Bool} {ret : Option FieldType} {R : Room} {Qo : Option (Option Value → sp_M → Prop)} {w : sp_T} {k n : Nat} {m : sp_M} {pc : Nat} {lv : sp_L} {st : List Value} (X : sp_X l G own cc nL init ret R Qo w) (kk : sp_wf m → G.base ≤ m.nx → w k n m pc lv st) : w k n m pc lv st := by
  obtain ⟨p, e, s, mm, args, below, meth, cd, Q, hx, hb, hml, hown, hlocks, hret, hini, hK, hQ, rfl⟩ := X
  intro hk0 hn0 H locs ls hH hL hl
  exact kk (fun a ha => hH.lt ha) hH.2.1 hk0 hn0 H locs ls hH hL hl
