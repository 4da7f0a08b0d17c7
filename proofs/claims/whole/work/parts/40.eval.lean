/-! Where the references lead, once all is made. -/
def pg_rho : Nat → Nat → Nat → mRf := fun k i j => match k, j with
  | 0, 0 => some (11, 2 + i)
  | 1, 0 => some (14, 0)
  | 1, 1 => some (14, 1)
  | 1, 2 => some (14, 2)
  | 1, 3 => some (14, 3)
  | 2, 0 => some (11, 0)
  | 2, 1 => some (11, 1)
  | 3, 0 => some (15, i)
  | 4, 1 => some (3, i)
  | 4, 2 => some (22, i)
  | 4, 3 => some (10, 2 * i)
  | 4, 4 => some (10, 2 * i + 1)
  | 5, 1 => some (13, i)
  | 6, 0 => some (20, 0)
  | 6, 1 => some (21, 0)
  | 6, 2 => some (2, 0)
  | 6, 3 => some (1, 0)
  | 20, j => some (4, j)
  | 21, j => some (0, j)
  | 22, j => some (5, 8 * i + j)
  | _, _ => none
theorem tst_43 (d q : Nat) (x : Int32) (c : Nat → Nat) (σ : Nat → Nat → Nat → Int32) (τ : Nat → Nat → Nat → Int64) :
    pX 100000 (d + 1) 43 [.inr (some (5, q)), .inl x] (c, σ, pg_rho, τ) = (if x < 0 then some (.inl (some (.inl 0)), (c, σ, pg_rho, τ)) else if x < 32 then (if x < 0 ∨ 32 ≤ x.toNatClampNeg then none else some (.inl (some (.inl (σ 13 q x.toNatClampNeg))), (c, σ, pg_rho, τ))) else some (.inl (some (.inl 0)), (c, σ, pg_rho, τ))) := rfl
