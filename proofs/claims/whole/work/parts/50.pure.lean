/-! PURE: all that is left is reckoning with the machine. Where the references lead, once all is made (class and reference). -/
abbrev mSg : Type := Nat → Nat → Nat → Int32
abbrev mLg : Type := Nat → Nat → Nat → Int64
def pr : Nat → Nat → Nat → mRf := fun k i j => match k, j with
  | 0, 0 => some (11, 2 + i)
  | 1, 0 => some (14, 0)
  | 1, 1 => some (14, 1)
  | 1, 2 => some (14, 2)
  | 1, 3 => some (14, 3)
  | 2, 0 => some (11, 0)
  | 2, 1 => some (11, 1)
  | 3, 0 => some (15, i)
  | 4, 1 => some (3, i)
  | 4, 2 => some (22, i)
  | 4, 3 => some (10, 2 * i)
  | 4, 4 => some (10, 2 * i + 1)
  | 5, 1 => some (13, i)
  | 6, 0 => some (20, 0)
  | 6, 1 => some (21, 0)
  | 6, 2 => some (2, 0)
  | 6, 3 => some (1, 0)
  | 7, 6 => some (11, 10)
  | 7, 7 => some (11, 11)
  | 7, 8 => some (30, 0)
  | 7, 9 => some (12, 0)
  | 7, 10 => some (12, 1)
  | 7, 11 => some (10, 8)
  | 7, 12 => some (10, 9)
  | 7, 13 => some (31, 0)
  | 7, 14 => some (13, 32)
  | 7, 15 => some (13, 33)
  | 7, 16 => some (13, 34)
  | 7, 17 => some (13, 35)
  | 7, 18 => some (13, 36)
  | 7, 19 => some (13, 37)
  | 7, 20 => some (13, 38)
  | 7, 21 => some (13, 39)
  | 7, 22 => some (13, 40)
  | 7, 23 => some (13, 41)
  | 7, 24 => some (13, 42)
  | 7, 25 => some (13, 43)
  | 7, 26 => some (16, 0)
  | 7, 29 => some (32, 0)
  | 7, 30 => some (11, 12)
  | 7, 31 => some (11, 13)
  | 7, 32 => some (11, 14)
  | 7, 33 => some (11, 15)
  | 7, 34 => some (11, 16)
  | 7, 35 => some (14, 4)
  | 7, 37 => some (14, 5)
  | 7, 38 => some (14, 6)
  | 7, 39 => some (14, 7)
  | 7, 40 => some (14, 8)
  | 20, j => some (4, j)
  | 21, j => some (0, j)
  | 22, j => some (5, 8 * i + j)
  | _, _ => none
/-- a method's own run, from within -/
def pL (F d mi f pc : Nat) (lv : List (Nat × mLV)) (st : List mAV) (M : mMm) : mRs := mq_loop pg_ki pg_sw (fun _ _ => none) pg_mx (pX F d) (pg_c mi) (pg_mx mi) none f pc lv st M 0 0
def mq_kv (r : mRs) (g : Option mLV → mMm → mRs) : mRs := match r with
  | some (.inl w, M') => g w M'
  | some (.inr _, _) => none
  | none => none
def mq_ks (r : mRs) (g : Option mLV → mMm → mRs) : mRs := match r with
  | some (.inl w, M') => g w M'
  | _ => none
theorem kv_some (w : Option mLV) (M : mMm) (g : Option mLV → mMm → mRs) : mq_kv (some (.inl w, M)) g = g w M := rfl
theorem ks_some (w : Option mLV) (M : mMm) (g : Option mLV → mMm → mRs) : mq_ks (some (.inl w, M)) g = g w M := rfl
theorem psh_n (st : List mAV) : mq_psh none st = st := rfl
theorem psh_i (x : Int32) (st : List mAV) : mq_psh (some (.inl x)) st = .inl x :: st := rfl
theorem psh_r (q : mRf) (st : List mAV) : mq_psh (some (.inr q)) st = .inr (.inl q) :: st := rfl
