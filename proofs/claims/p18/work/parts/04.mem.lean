/-! MEMORY: what the new cells hold, by fields (key, address) and by arrays (address, place); kinds by address -/
/-- next address; kind; length; int, long, reference fields; int, long, reference elements -/
def sp_M : Type := Nat × (Nat → Nat) × (Nat → Nat) × (Nat → Nat → Int32) × (Nat → Nat → Int64) × (Nat → Nat → Option Nat) × (Nat → Nat → Int32) × (Nat → Nat → Int64) × (Nat → Nat → Option Nat)
def sp_M.nx (m : sp_M) : Nat := m.1
def sp_M.ty (m : sp_M) : Nat → Nat := m.2.1
def sp_M.ln (m : sp_M) : Nat → Nat := m.2.2.1
def sp_M.fI (m : sp_M) : Nat → Nat → Int32 := m.2.2.2.1
def sp_M.fL (m : sp_M) : Nat → Nat → Int64 := m.2.2.2.2.1
def sp_M.fR (m : sp_M) : Nat → Nat → Option Nat := m.2.2.2.2.2.1
def sp_M.aI (m : sp_M) : Nat → Nat → Int32 := m.2.2.2.2.2.2.1
def sp_M.aL (m : sp_M) : Nat → Nat → Int64 := m.2.2.2.2.2.2.2.1
def sp_M.aR (m : sp_M) : Nat → Nat → Option Nat := m.2.2.2.2.2.2.2.2
def sp_u1 {α : Type} (f : Nat → α) (a : Nat) (v : α) : Nat → α := fun b => if b = a then v else f b
def sp_u2 {α : Type} (f : Nat → Nat → α) (k a : Nat) (v : α) : Nat → Nat → α := fun j b => if j = k ∧ b = a then v else f j b
/-- writes -/
def sp_M.pI (m : sp_M) (k a : Nat) (v : Int32) : sp_M := (m.nx, m.ty, m.ln, sp_u2 m.fI k a v, m.fL, m.fR, m.aI, m.aL, m.aR)
def sp_M.pL (m : sp_M) (k a : Nat) (v : Int64) : sp_M := (m.nx, m.ty, m.ln, m.fI, sp_u2 m.fL k a v, m.fR, m.aI, m.aL, m.aR)
def sp_M.pR (m : sp_M) (k a : Nat) (v : Option Nat) : sp_M := (m.nx, m.ty, m.ln, m.fI, m.fL, sp_u2 m.fR k a v, m.aI, m.aL, m.aR)
def sp_M.sI (m : sp_M) (a j : Nat) (v : Int32) : sp_M := (m.nx, m.ty, m.ln, m.fI, m.fL, m.fR, sp_u2 m.aI a j v, m.aL, m.aR)
def sp_M.sL (m : sp_M) (a j : Nat) (v : Int64) : sp_M := (m.nx, m.ty, m.ln, m.fI, m.fL, m.fR, m.aI, sp_u2 m.aL a j v, m.aR)
def sp_M.sR (m : sp_M) (a j : Nat) (v : Option Nat) : sp_M := (m.nx, m.ty, m.ln, m.fI, m.fL, m.fR, m.aI, m.aL, sp_u2 m.aR a j v)
/-- a new object of class number c: all its fields 0; a new array -/
def sp_M.newO (m : sp_M) (c : Nat) : sp_M := (m.nx + 1, sp_u1 m.ty m.nx (c + 1), m.ln, fun k b => if b = m.nx then 0 else m.fI k b, fun k b => if b = m.nx then 0 else m.fL k b, fun k b => if b = m.nx then none else m.fR k b, m.aI, m.aL, m.aR)
def sp_M.newA (m : sp_M) (t n : Nat) : sp_M := (m.nx + 1, sp_u1 m.ty m.nx t, sp_u1 m.ln m.nx n, m.fI, m.fL, m.fR, fun b j => if b = m.nx then 0 else m.aI b j, fun b j => if b = m.nx then 0 else m.aL b j, fun b j => if b = m.nx then none else m.aR b j)
theorem sp_pI_nx (m : sp_M) (k a : Nat) (v : Int32) : (m.pI k a v).nx = m.nx := rfl
theorem sp_pI_ty (m : sp_M) (k a : Nat) (v : Int32) : (m.pI k a v).ty = m.ty := rfl
theorem sp_pI_ln (m : sp_M) (k a : Nat) (v : Int32) : (m.pI k a v).ln = m.ln := rfl
theorem sp_pI_fI (m : sp_M) (k a : Nat) (v : Int32) (j b : Nat) : (m.pI k a v).fI j b = if j = k ∧ b = a then v else m.fI j b := rfl
theorem sp_pI_fL (m : sp_M) (k a : Nat) (v : Int32) : (m.pI k a v).fL = m.fL := rfl
theorem sp_pI_fR (m : sp_M) (k a : Nat) (v : Int32) : (m.pI k a v).fR = m.fR := rfl
theorem sp_pI_aI (m : sp_M) (k a : Nat) (v : Int32) : (m.pI k a v).aI = m.aI := rfl
theorem sp_pI_aL (m : sp_M) (k a : Nat) (v : Int32) : (m.pI k a v).aL = m.aL := rfl
theorem sp_pI_aR (m : sp_M) (k a : Nat) (v : Int32) : (m.pI k a v).aR = m.aR := rfl
theorem sp_pL_nx (m : sp_M) (k a : Nat) (v : Int64) : (m.pL k a v).nx = m.nx := rfl
theorem sp_pL_ty (m : sp_M) (k a : Nat) (v : Int64) : (m.pL k a v).ty = m.ty := rfl
theorem sp_pL_ln (m : sp_M) (k a : Nat) (v : Int64) : (m.pL k a v).ln = m.ln := rfl
theorem sp_pL_fI (m : sp_M) (k a : Nat) (v : Int64) : (m.pL k a v).fI = m.fI := rfl
theorem sp_pL_fL (m : sp_M) (k a : Nat) (v : Int64) (j b : Nat) : (m.pL k a v).fL j b = if j = k ∧ b = a then v else m.fL j b := rfl
theorem sp_pL_fR (m : sp_M) (k a : Nat) (v : Int64) : (m.pL k a v).fR = m.fR := rfl
theorem sp_pL_aI (m : sp_M) (k a : Nat) (v : Int64) : (m.pL k a v).aI = m.aI := rfl
theorem sp_pL_aL (m : sp_M) (k a : Nat) (v : Int64) : (m.pL k a v).aL = m.aL := rfl
theorem sp_pL_aR (m : sp_M) (k a : Nat) (v : Int64) : (m.pL k a v).aR = m.aR := rfl
theorem sp_pR_nx (m : sp_M) (k a : Nat) (v : Option Nat) : (m.pR k a v).nx = m.nx := rfl
theorem sp_pR_ty (m : sp_M) (k a : Nat) (v : Option Nat) : (m.pR k a v).ty = m.ty := rfl
theorem sp_pR_ln (m : sp_M) (k a : Nat) (v : Option Nat) : (m.pR k a v).ln = m.ln := rfl
theorem sp_pR_fI (m : sp_M) (k a : Nat) (v : Option Nat) : (m.pR k a v).fI = m.fI := rfl
theorem sp_pR_fL (m : sp_M) (k a : Nat) (v : Option Nat) : (m.pR k a v).fL = m.fL := rfl
theorem sp_pR_fR (m : sp_M) (k a : Nat) (v : Option Nat) (j b : Nat) : (m.pR k a v).fR j b = if j = k ∧ b = a then v else m.fR j b := rfl
theorem sp_pR_aI (m : sp_M) (k a : Nat) (v : Option Nat) : (m.pR k a v).aI = m.aI := rfl
theorem sp_pR_aL (m : sp_M) (k a : Nat) (v : Option Nat) : (m.pR k a v).aL = m.aL := rfl
theorem sp_pR_aR (m : sp_M) (k a : Nat) (v : Option Nat) : (m.pR k a v).aR = m.aR := rfl
theorem sp_sI_nx (m : sp_M) (k a : Nat) (v : Int32) : (m.sI k a v).nx = m.nx := rfl
theorem sp_sI_ty (m : sp_M) (k a : Nat) (v : Int32) : (m.sI k a v).ty = m.ty := rfl
theorem sp_sI_ln (m : sp_M) (k a : Nat) (v : Int32) : (m.sI k a v).ln = m.ln := rfl
theorem sp_sI_fI (m : sp_M) (k a : Nat) (v : Int32) : (m.sI k a v).fI = m.fI := rfl
theorem sp_sI_fL (m : sp_M) (k a : Nat) (v : Int32) : (m.sI k a v).fL = m.fL := rfl
theorem sp_sI_fR (m : sp_M) (k a : Nat) (v : Int32) : (m.sI k a v).fR = m.fR := rfl
theorem sp_sI_aI (m : sp_M) (k a : Nat) (v : Int32) (j b : Nat) : (m.sI k a v).aI j b = if j = k ∧ b = a then v else m.aI j b := rfl
theorem sp_sI_aL (m : sp_M) (k a : Nat) (v : Int32) : (m.sI k a v).aL = m.aL := rfl
theorem sp_sI_aR (m : sp_M) (k a : Nat) (v : Int32) : (m.sI k a v).aR = m.aR := rfl
theorem sp_sL_nx (m : sp_M) (k a : Nat) (v : Int64) : (m.sL k a v).nx = m.nx := rfl
theorem sp_sL_ty (m : sp_M) (k a : Nat) (v : Int64) : (m.sL k a v).ty = m.ty := rfl
theorem sp_sL_ln (m : sp_M) (k a : Nat) (v : Int64) : (m.sL k a v).ln = m.ln := rfl
theorem sp_sL_fI (m : sp_M) (k a : Nat) (v : Int64) : (m.sL k a v).fI = m.fI := rfl
theorem sp_sL_fL (m : sp_M) (k a : Nat) (v : Int64) : (m.sL k a v).fL = m.fL := rfl
theorem sp_sL_fR (m : sp_M) (k a : Nat) (v : Int64) : (m.sL k a v).fR = m.fR := rfl
theorem sp_sL_aI (m : sp_M) (k a : Nat) (v : Int64) : (m.sL k a v).aI = m.aI := rfl
theorem sp_sL_aL (m : sp_M) (k a : Nat) (v : Int64) (j b : Nat) : (m.sL k a v).aL j b = if j = k ∧ b = a then v else m.aL j b := rfl
theorem sp_sL_aR (m : sp_M) (k a : Nat) (v : Int64) : (m.sL k a v).aR = m.aR := rfl
theorem sp_sR_nx (m : sp_M) (k a : Nat) (v : Option Nat) : (m.sR k a v).nx = m.nx := rfl
theorem sp_sR_ty (m : sp_M) (k a : Nat) (v : Option Nat) : (m.sR k a v).ty = m.ty := rfl
theorem sp_sR_ln (m : sp_M) (k a : Nat) (v : Option Nat) : (m.sR k a v).ln = m.ln := rfl
theorem sp_sR_fI (m : sp_M) (k a : Nat) (v : Option Nat) : (m.sR k a v).fI = m.fI := rfl
theorem sp_sR_fL (m : sp_M) (k a : Nat) (v : Option Nat) : (m.sR k a v).fL = m.fL := rfl
theorem sp_sR_fR (m : sp_M) (k a : Nat) (v : Option Nat) : (m.sR k a v).fR = m.fR := rfl
theorem sp_sR_aI (m : sp_M) (k a : Nat) (v : Option Nat) : (m.sR k a v).aI = m.aI := rfl
theorem sp_sR_aL (m : sp_M) (k a : Nat) (v : Option Nat) : (m.sR k a v).aL = m.aL := rfl
theorem sp_sR_aR (m : sp_M) (k a : Nat) (v : Option Nat) (j b : Nat) : (m.sR k a v).aR j b = if j = k ∧ b = a then v else m.aR j b := rfl
theorem sp_newO_nx (m : sp_M) (c : Nat) : (m.newO c).nx = m.nx + 1 := rfl
theorem sp_newO_ty (m : sp_M) (c b : Nat) : (m.newO c).ty b = if b = m.nx then c + 1 else m.ty b := rfl
theorem sp_newO_ln (m : sp_M) (c : Nat) : (m.newO c).ln = m.ln := rfl
theorem sp_newO_aI (m : sp_M) (c : Nat) : (m.newO c).aI = m.aI := rfl
theorem sp_newO_aL (m : sp_M) (c : Nat) : (m.newO c).aL = m.aL := rfl
theorem sp_newO_aR (m : sp_M) (c : Nat) : (m.newO c).aR = m.aR := rfl
theorem sp_newO_fI (m : sp_M) (c k b : Nat) : (m.newO c).fI k b = if b = m.nx then 0 else m.fI k b := rfl
theorem sp_newO_fL (m : sp_M) (c k b : Nat) : (m.newO c).fL k b = if b = m.nx then 0 else m.fL k b := rfl
theorem sp_newO_fR (m : sp_M) (c k b : Nat) : (m.newO c).fR k b = if b = m.nx then none else m.fR k b := rfl
theorem sp_newA_nx (m : sp_M) (t n : Nat) : (m.newA t n).nx = m.nx + 1 := rfl
theorem sp_newA_ty (m : sp_M) (t n b : Nat) : (m.newA t n).ty b = if b = m.nx then t else m.ty b := rfl
theorem sp_newA_ln (m : sp_M) (t n b : Nat) : (m.newA t n).ln b = if b = m.nx then n else m.ln b := rfl
theorem sp_newA_fI (m : sp_M) (t n : Nat) : (m.newA t n).fI = m.fI := rfl
theorem sp_newA_fL (m : sp_M) (t n : Nat) : (m.newA t n).fL = m.fL := rfl
theorem sp_newA_fR (m : sp_M) (t n : Nat) : (m.newA t n).fR = m.fR := rfl
theorem sp_newA_aI (m : sp_M) (t n b j : Nat) : (m.newA t n).aI b j = if b = m.nx then 0 else m.aI b j := rfl
theorem sp_newA_aL (m : sp_M) (t n b j : Nat) : (m.newA t n).aL b j = if b = m.nx then 0 else m.aL b j := rfl
theorem sp_newA_aR (m : sp_M) (t n b j : Nat) : (m.newA t n).aR b j = if b = m.nx then none else m.aR b j := rfl
/-- the types of a class's fields: 0 an int or boolean, 1 a long, 2 a reference -/
def sp_ft : Nat → List Nat
  | 0 => [0, 2, 0]
  | 1 => [0, 1, 0]
  | 2 => [2, 0]
  | 3 => [0, 2, 2, 0, 1]
  | 4 => [2, 2]
  | 5 => [0, 2, 2, 2, 2, 0, 0, 0]
  | 6 => [2, 0]
  | 7 => [0, 0, 2, 2]
  | 8 => [0, 0, 0, 0, 0, 0]
  | 9 => [2, 2, 2, 2, 1, 1, 0, 1, 2, 0, 2, 2, 2, 0]
  | 10 => [2, 2, 2, 2, 2, 2, 2]
  | 11 => [2, 2, 2, 0, 0]
  | 12 => [2, 2, 2, 2, 2, 2, 2, 2, 0]
  | 13 => [0, 2, 0, 0, 2, 2, 2, 2, 2, 2, 2, 2, 2, 0, 0, 2, 2, 0, 2, 2, 2, 0, 2, 2, 0, 2, 2, 2, 2, 1, 1, 0, 1, 0, 2, 0, 2, 2, 0, 0, 0, 0]
  | _ => []
def sp_fv (m : sp_M) (t k a : Nat) : Value := match t with
  | 0 => .int (m.fI k a)
  | 1 => .long (m.fL k a)
  | _ => va_rf (m.fR k a)
/-- the fields of the object at a, of class c: field i has the key 64 c + i -/
def sp_fs (m : sp_M) (c a : Nat) : List Value := (sp_ft c).mapIdx (fun i t => sp_fv m t (64 * c + i) a)
/-- the array classes -/
abbrev sp_Y : Type := ClassId × ClassId × ClassId × ClassId
/-- what the cell at a is, by its kind -/
def sp_e (y : sp_Y) (m : sp_M) (a : Nat) : va_E :=
  if m.ty a = 20 then .inl (y.1, m.ln a, .inl (m.aI a))
  else if m.ty a = 21 then .inl (y.2.1, m.ln a, .inr (.inl (m.aL a)))
  else if m.ty a = 22 then .inl (y.2.2.1, m.ln a, .inl (m.aI a))
  else if m.ty a = 23 then .inl (y.2.2.2, m.ln a, .inr (.inr (.inr (.inr (m.aR a)))))
  else .inr (m.ty a - 1, sp_fs m (m.ty a - 1) a)
