/-! PURE: all that is left is reckoning with the machine. Where the references lead, once all is made (class and reference). -/
abbrev mSg : Type := Nat → Nat → Nat → Int32
abbrev mLg : Type := Nat → Nat → Nat → Int64
def pr : Nat → Nat → Nat → mRf := fun k i j => match k, j with
  | 0, 0 => some (11, 2 + i)
  | 1, 0 => some (14, 0)
  | 1, 1 => some (14, 1)
  | 1, 2 => some (14, 2)
  | 1, 3 => some (14, 3)
  | 2, 0 => some (11, 0)
  | 2, 1 => some (11, 1)
  | 3, 0 => some (15, i)
  | 4, 1 => some (3, i)
  | 4, 2 => some (22, i)
  | 4, 3 => some (10, 2 * i)
  | 4, 4 => some (10, 2 * i + 1)
  | 5, 1 => some (13, i)
  | 6, 0 => some (20, 0)
  | 6, 1 => some (21, 0)
  | 6, 2 => some (2, 0)
  | 6, 3 => some (1, 0)
  | 7, 6 => some (11, 10)
  | 7, 7 => some (11, 11)
  | 7, 8 => some (30, 0)
  | 7, 9 => some (12, 0)
  | 7, 10 => some (12, 1)
  | 7, 11 => some (10, 8)
  | 7, 12 => some (10, 9)
  | 7, 13 => some (31, 0)
  | 7, 14 => some (13, 32)
  | 7, 15 => some (13, 33)
  | 7, 16 => some (13, 34)
  | 7, 17 => some (13, 35)
  | 7, 18 => some (13, 36)
  | 7, 19 => some (13, 37)
  | 7, 20 => some (13, 38)
  | 7, 21 => some (13, 39)
  | 7, 22 => some (13, 40)
  | 7, 23 => some (13, 41)
  | 7, 24 => some (13, 42)
  | 7, 25 => some (13, 43)
  | 7, 26 => some (16, 0)
  | 7, 29 => some (32, 0)
  | 7, 30 => some (11, 12)
  | 7, 31 => some (11, 13)
  | 7, 32 => some (11, 14)
  | 7, 33 => some (11, 15)
  | 7, 34 => some (11, 16)
  | 7, 35 => some (14, 4)
  | 7, 37 => some (14, 5)
  | 7, 38 => some (14, 6)
  | 7, 39 => some (14, 7)
  | 7, 40 => some (14, 8)
  | 20, j => some (4, j)
  | 21, j => some (0, j)
  | 22, j => some (5, 8 * i + j)
  | _, _ => none
/-- a method's own run, from within -/
def pL (F d mi f pc : Nat) (lv : List (Nat × mLV)) (st : List mAV) (M : mMm) : mRs := mq_loop pg_ki pg_sw (fun _ _ => none) pg_mx (pX F d) (pg_c mi) (pg_mx mi) none f pc lv st M 0 0
def mq_kv (r : mRs) (g : Option mLV → mMm → mRs) : mRs := match r with
  | some (.inl w, M') => g w M'
  | some (.inr _, _) => none
  | none => none
def mq_ks (r : mRs) (g : Option mLV → mMm → mRs) : mRs := match r with
  | some (.inl w, M') => g w M'
  | _ => none
theorem kv_some (w : Option mLV) (M : mMm) (g : Option mLV → mMm → mRs) : mq_kv (some (.inl w, M)) g = g w M := rfl
theorem ks_some (w : Option mLV) (M : mMm) (g : Option mLV → mMm → mRs) : mq_ks (some (.inl w, M)) g = g w M := rfl
theorem psh_n (st : List mAV) : mq_psh none st = st := rfl
theorem psh_i (x : Int32) (st : List mAV) : mq_psh (some (.inl x)) st = .inl x :: st := rfl
theorem psh_r (q : mRf) (st : List mAV) : mq_psh (some (.inr q)) st = .inr (.inl q) :: st := rfl
abbrev mRz : Type := Option mLV ⊕ Nat
/-- with fuel enough, this method at these arguments and ints answers r, and leaves these ints -/
def Sp (d mi : Nat) (as : List mLV) (σ : mSg) (r : mRz) (ω : mSg) : Prop := ∃ F0, ∀ F, F0 ≤ F → ∀ c τ, pX F d mi as (c, σ, pr, τ) = some (r, (c, ω, pr, τ))
/-- the same from within a method -/
def Rn (d mi pc : Nat) (lv : List (Nat × mLV)) (st : List mAV) (σ : mSg) (r : mRz) (ω : mSg) : Prop := ∃ F0 n, ∀ F f, F0 ≤ F → ∀ c τ, pL F d mi (f + n) pc lv st (c, σ, pr, τ) = some (r, (c, ω, pr, τ))
section PRN
variable {d mi pc pc1 N a nx q : Nat} {as : List mLV} {lv lv1 : List (Nat × mLV)} {st st1 : List mAV} {σ σ1 σ2 ω : mSg} {r : mRz} {w : Option mLV}
theorem sp_en (hT : ∀ F c τ, pX F (d + 1) mi as (c, σ, pr, τ) = pL F d mi F pc lv st (c, σ, pr, τ)) (h : Rn d mi pc lv st σ r ω) : Sp (d + 1) mi as σ r ω := by
  obtain ⟨F0, n, h⟩ := h
  refine ⟨F0 + n, fun F hF c τ => (hT F c τ).trans ?_⟩
  have h1 := h F (F - n) (by omega) c τ
  rwa [Nat.sub_add_cancel (by omega)] at h1
theorem rn_ret (hT : ∀ F f c τ, pL F d mi (f + N) pc lv st (c, σ, pr, τ) = some (r, (c, ω, pr, τ))) : Rn d mi pc lv st σ r ω := ⟨0, N, fun F f _ c τ => hT F f c τ⟩
theorem rn_go (hT : ∀ F f c τ, pL F d mi (f + N) pc lv st (c, σ, pr, τ) = pL F d mi f pc1 lv1 st1 (c, σ1, pr, τ)) (h : Rn d mi pc1 lv1 st1 σ1 r ω) : Rn d mi pc lv st σ r ω := by
  obtain ⟨F0, n, h⟩ := h
  refine ⟨F0, n + N, fun F f hF c τ => ?_⟩
  rw [← Nat.add_assoc, hT]
  exact h F f hF c τ
theorem rn_kv (hT : ∀ F f c τ, pL F d mi (f + N) pc lv st (c, σ, pr, τ) = mq_kv (pX F d a as (c, σ1, pr, τ)) (fun w M => pL F d mi f nx lv1 (mq_psh w st1) M)) (hs : Sp d a as σ1 (.inl w) σ2) (h : Rn d mi nx lv1 (mq_psh w st1) σ2 r ω) : Rn d mi pc lv st σ r ω := by
  obtain ⟨F1, hs⟩ := hs
  obtain ⟨F0, n, h⟩ := h
  refine ⟨F0 + F1, n + N, fun F f hF c τ => ?_⟩
  rw [← Nat.add_assoc, hT, hs F (by omega), kv_some]
  exact h F f (by omega) c τ
theorem rn_ks (hT : ∀ F f c τ, pL F d mi (f + N) pc lv st (c, σ, pr, τ) = mq_ks (pX F d a as (c, σ1, pr, τ)) (fun w M => pL F d mi f nx lv1 (mq_psh w st1) M)) (hs : Sp d a as σ1 (.inl w) σ2) (h : Rn d mi nx lv1 (mq_psh w st1) σ2 r ω) : Rn d mi pc lv st σ r ω := by
  obtain ⟨F1, hs⟩ := hs
  obtain ⟨F0, n, h⟩ := h
  refine ⟨F0 + F1, n + N, fun F f hF c τ => ?_⟩
  rw [← Nat.add_assoc, hT, hs F (by omega), ks_some]
  exact h F f (by omega) c τ
theorem sw_eq (e : pc = q) (h : Rn d mi q lv st σ r ω) : Rn d mi pc lv st σ r ω := by rw [e]; exact h
end PRN
theorem ne_lit {x a b : Int32} (h : x = a) (hn : a ≠ b) : ¬ x = b := fun e => hn (h.symm.trans e)
