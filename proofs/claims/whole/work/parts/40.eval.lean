/-! Where the references lead, once all is made. -/
def pg_rho : Nat → Nat → Nat → mRf := fun k i j => match k, j with
  | 0, 0 => some (11, 2 + i)
  | 1, 0 => some (14, 0)
  | 1, 1 => some (14, 1)
  | 1, 2 => some (14, 2)
  | 1, 3 => some (14, 3)
  | 2, 0 => some (11, 0)
  | 2, 1 => some (11, 1)
  | 3, 0 => some (15, i)
  | 4, 1 => some (3, i)
  | 4, 2 => some (22, i)
  | 4, 3 => some (10, 2 * i)
  | 4, 4 => some (10, 2 * i + 1)
  | 5, 1 => some (13, i)
  | 6, 0 => some (20, 0)
  | 6, 1 => some (21, 0)
  | 6, 2 => some (2, 0)
  | 6, 3 => some (1, 0)
  | 20, j => some (4, j)
  | 21, j => some (0, j)
  | 22, j => some (5, 8 * i + j)
  | _, _ => none
theorem tst_43 (d q : Nat) (x : Int32) (c : Nat → Nat) (σ : Nat → Nat → Nat → Int32) (τ : Nat → Nat → Nat → Int64) :
    pX 100000 (d + 1) 43 [.inr (some (5, q)), .inl x] (c, σ, pg_rho, τ) = (if x < 0 then some (.inl (some (.inl 0)), (c, σ, pg_rho, τ)) else if x < 32 then (if x < 0 ∨ 32 ≤ x.toNatClampNeg then none else some (.inl (some (.inl (σ 13 q x.toNatClampNeg))), (c, σ, pg_rho, τ))) else some (.inl (some (.inl 0)), (c, σ, pg_rho, τ))) := rfl
theorem tst_16 (F d : Nat) (x y : Int32) (M : mMm) : pX (F + 40) (d + 1) 16 [.inl x, .inl y] M = if x < 0 then some (.inl (some (.inl 0)), M) else if x < 1024 then (if x &&& (y - 1) = 0 then some (.inl (some (.inl 1)), M) else some (.inl (some (.inl 0)), M)) else some (.inl (some (.inl 0)), M) := rfl
theorem tst_17 (F d i : Nat) (x : Int32) (c : Nat → Nat) (σ : Nat → Nat → Nat → Int32) (τ : Nat → Nat → Nat → Int64) (h0 : ¬ x < 0) (h1 : x < 1024) (h2 : x &&& (4 - 1) = 0) (h3 : ¬ (x >>> (2 &&& 31) < 0 ∨ 256 ≤ (x >>> (2 &&& 31)).toNatClampNeg)) : pX (F + 40) (d + 2) 17 [.inr (some (3, i)), .inl x] (c, σ, pg_rho, τ) = some (.inl (some (.inl (σ 15 i (x >>> (2 &&& 31)).toNatClampNeg))), (c, σ, pg_rho, τ)) := by
  have e : pX (F + 40) (d + 1) 16 [.inl x, .inl 4] (c, σ, pg_rho, τ) = some (.inl (some (.inl 1)), (c, σ, pg_rho, τ)) := by
    rw [tst_16, if_neg h0, if_pos h1, if_pos h2]
  have e2 : pX (F + 40) (d + 2) 17 [.inr (some (3, i)), .inl x] (c, σ, pg_rho, τ) = (match pX (F + 40) (d + 1) 16 [.inl x, .inl 4] (c, σ, pg_rho, τ) with
    | some (.inl w, M') => mq_loop pg_ki pg_sw (fun _ _ => none) pg_mx (mq_ex pg_ki pg_sw (fun _ _ => none) pg_mx pg_Z.2.2.1 pg_c (F + 40) (d + 1)) (pg_c 17) (pg_mx 17) none (F + 37) 5 (mq_en 0 [.inr (some (3, i)), .inl x]) (mq_psh w []) M' 0 0
    | _ => none) := rfl
  rw [e2, e]
  show (if x >>> (2 &&& 31) < 0 ∨ 256 ≤ (x >>> (2 &&& 31)).toNatClampNeg then none else _) = _
  rw [if_neg h3]
  rfl
