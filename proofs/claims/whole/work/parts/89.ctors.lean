/-! The constructors. -/
abbrev pC (F d mi f pc : Nat) (lv : List (Nat × mLV)) (st : List mAV) (M : mMm) (cs ss : Nat) : mRs := mq_loop pg_ki pg_sw (fun _ _ => none) pg_mx (pX F d) (pg_c mi) (pg_mx mi) none f pc lv st M cs ss
def cu (c : Nat → Nat) (k : Nat) : Nat → Nat := fun k' => if k' = k then c k + 1 else c k'
def Zl : mLg := fun _ _ _ => 0
/-- what the ints are when all is made; n places of the reference's arrays are set -/
def iF (n : Nat) : mSg := fun k i j =>
  if k = 5 ∧ (j = 8 ∨ j = 10 ∨ j = 11) then -1 else if k = 5 ∧ j = 0 then nI (i % 8) else if k = 4 ∧ j = 0 then nI i else if k = 0 ∧ j = 7 then -1 else if k = 13 ∧ (i = 38 ∨ i = 39 ∨ i = 40) ∧ j < n then -1 else 0
/-- where references lead, arrays being filled so far -/
def prA (a b n : Nat) : Nat → Nat → Nat → mRf := fun k i j =>
  if k = 20 then (if 1 ≤ i ∨ j < a then some (4, j) else none) else if k = 21 then (if 1 ≤ i ∨ j < b then some (0, j) else none) else if k = 22 then (if j < 8 ∧ (4 ≤ i ∨ 8 * i + j < n) then some (5, 8 * i + j) else none) else pr k i j
/-- a new object's references: from field s on they are not set yet -/
def gk (f : Nat → Nat → Nat → mRf) (k0 i0 s : Nat) : Nat → Nat → Nat → mRf := fun k i j => if k = k0 ∧ i = i0 ∧ s ≤ j then none else f k i j
section CTOR
variable {d mi pc pc1 nx a cs ss cs1 ss1 N : Nat} {as : List mLV} {lv lv1 : List (Nat × mLV)} {st st1 : List mAV} {M M1 M2 : mMm} {r : mRz × mMm} {w : Option mLV}
def Cn (d mi pc : Nat) (lv : List (Nat × mLV)) (st : List mAV) (M : mMm) (cs ss : Nat) (r : mRz × mMm) : Prop := ∃ F0 n, ∀ F f, F0 ≤ F → pC F d mi (f + n) pc lv st M cs ss = some r
def Cs (d mi : Nat) (as : List mLV) (M : mMm) (r : mRz × mMm) : Prop := ∃ F0, ∀ F, F0 ≤ F → pX F d mi as M = some r
theorem cn_go (hT : ∀ F f, pC F d mi (f + N) pc lv st M cs ss = pC F d mi f pc1 lv1 st1 M1 cs1 ss1) (h : Cn d mi pc1 lv1 st1 M1 cs1 ss1 r) : Cn d mi pc lv st M cs ss r := by
  obtain ⟨F0, n, h⟩ := h
  refine ⟨F0, n + N, fun F f hF => ?_⟩
  rw [← Nat.add_assoc, hT]
  exact h F f hF
theorem cn_ret (hT : ∀ F f, pC F d mi (f + N) pc lv st M cs ss = some r) : Cn d mi pc lv st M cs ss r := ⟨0, N, fun F f _ => hT F f⟩
theorem cn_call (hT : ∀ F f, pC F d mi (f + N) pc lv st M cs ss = mq_ks (pX F d a as M1) (fun w M => pC F d mi f nx lv1 (mq_psh w st1) M cs1 ss1)) (hs : Cs d a as M1 (.inl w, M2)) (h : Cn d mi nx lv1 (mq_psh w st1) M2 cs1 ss1 r) : Cn d mi pc lv st M cs ss r := by
  obtain ⟨F1, hs⟩ := hs
  obtain ⟨F0, n, h⟩ := h
  refine ⟨F0 + F1, n + N, fun F f hF => ?_⟩
  rw [← Nat.add_assoc, hT, hs F (by omega), ks_some]
  exact h F f (by omega)
theorem cs_en (hT : ∀ F, pX F (d + 1) mi as M = pC F d mi F pc lv st M cs ss) (h : Cn d mi pc lv st M cs ss r) : Cs (d + 1) mi as M r := by
  obtain ⟨F0, n, h⟩ := h
  refine ⟨F0 + n, fun F hF => (hT F).trans ?_⟩
  have h1 := h F (F - n) (by omega)
  rwa [Nat.sub_add_cancel (by omega)] at h1
end CTOR
theorem cu_eq (c : Nat → Nat) (k : Nat) : cu c k k = c k + 1 := if_pos rfl
theorem cu_ne {c : Nat → Nat} {k k' : Nat} (h : k' ≠ k) : cu c k k' = c k' := if_neg h
theorem Zl_cr (k i : Nat) : mq_cr Zl k i 0 = Zl := by
  funext a b c
  unfold mq_cr Zl
  split <;> rfl
theorem cr_z {σ : mSg} {k i : Nat} (h : ∀ j, σ k i j = 0) : mq_cr σ k i 0 = σ := by
  funext a b c
  unfold mq_cr
  split
  · rename_i e; obtain ⟨rfl, rfl⟩ := e; exact (h c).symm
  · rfl
theorem gk_0 (f : Nat → Nat → Nat → mRf) (k i : Nat) : mq_cr f k i none = gk f k i 0 := by
  funext a b c
  unfold mq_cr gk
  by_cases e : a = k ∧ b = i
  · rw [if_pos e, if_pos ⟨e.1, e.2, Nat.zero_le _⟩]
  · rw [if_neg e, if_neg (fun z => e ⟨z.1, z.2.1⟩)]
theorem gk_cr {f : Nat → Nat → Nat → mRf} {k i s ka ia : Nat} (hn : ka ≠ k) (h : ∀ j, f ka ia j = none) : mq_cr (gk f k i s) ka ia none = gk f k i s := by
  funext a b c
  unfold mq_cr gk
  by_cases e : a = ka ∧ b = ia
  · rw [if_pos e]
    obtain ⟨rfl, rfl⟩ := e
    rw [if_neg (fun z => hn z.1), h]
  · rw [if_neg e]
theorem gk_up {f : Nat → Nat → Nat → mRf} {k i s : Nat} {v : mRf} (h : f k i s = v) : mq_up (gk f k i s) k i s v = gk f k i (s + 1) := by
  funext a b c
  unfold mq_up gk
  by_cases e : a = k ∧ b = i
  · obtain ⟨rfl, rfl⟩ := e
    by_cases e2 : c = s
    · subst e2; rw [if_pos ⟨rfl, rfl, rfl⟩, if_neg (by omega), h]
    · rw [if_neg (fun z => e2 z.2.2)]
      by_cases e3 : s ≤ c
      · rw [if_pos ⟨rfl, rfl, e3⟩, if_pos ⟨rfl, rfl, by omega⟩]
      · rw [if_neg (fun z => e3 z.2.2), if_neg (fun z => e3 (by omega))]
  · rw [if_neg (fun z => e ⟨z.1, z.2.1⟩), if_neg (fun z => e ⟨z.1, z.2.1⟩), if_neg (fun z => e ⟨z.1, z.2.1⟩)]
theorem gk_sk {f : Nat → Nat → Nat → mRf} {k i s : Nat} (h : f k i s = none) : gk f k i s = gk f k i (s + 1) := by
  rw [← gk_up (k := k) (i := i) h]
  funext a b c
  unfold mq_up gk
  by_cases e : a = k ∧ b = i ∧ c = s
  · rw [if_pos e, if_pos ⟨e.1, e.2.1, by omega⟩]
  · rw [if_neg e]
theorem gk_end {f : Nat → Nat → Nat → mRf} {k i s : Nat} (h : ∀ j, s ≤ j → f k i j = none) : gk f k i s = f := by
  funext a b c
  unfold gk
  by_cases e : a = k ∧ b = i ∧ s ≤ c
  · rw [if_pos e]
    obtain ⟨rfl, rfl, h3⟩ := e
    exact (h c h3).symm
  · rw [if_neg e]
section LEAF
variable {d K i x0 : Nat} {x : Int32} {c : Nat → Nat} {σ : mSg} {g : Nat → Nat → Nat → mRf} {τ : mLg} {a b n : Nat}
theorem c42T (f : Nat) : pX (f + 22) (d + 1) 42 [.inr (some (5, K)), .inl x] (c, σ, g, τ) = some (.inl none, (cu c 13, mq_up (mq_up (mq_up (mq_up (mq_up (mq_cr σ 13 (c 13) 0) 5 K 7 0) 5 K 8 (-1)) 5 K 10 (-1)) 5 K 11 (-1)) 5 K 0 x, mq_up (mq_cr g 13 (c 13) none) 5 K 1 (some (13, c 13)), mq_cr τ 13 (c 13) 0)) := rfl
theorem c1T (f : Nat) : pX (f + 10) (d + 1) 1 [.inr (some (0, i))] (c, σ, g, τ) = some (.inl none, (cu c 11, mq_up (mq_cr σ 11 (c 11) 0) 0 i 7 (-1), mq_up (mq_cr g 11 (c 11) none) 0 i 0 (some (11, c 11)), mq_cr τ 11 (c 11) 0)) := rfl
theorem c15T (f : Nat) : pX (f + 7) (d + 1) 15 [.inr (some (3, i))] (c, σ, g, τ) = some (.inl none, (cu c 15, mq_cr σ 15 (c 15) 0, mq_up (mq_cr g 15 (c 15) none) 3 i 0 (some (15, c 15)), mq_cr τ 15 (c 15) 0)) := rfl
theorem c11T (f : Nat) : pX (f + 11) (d + 1) 11 [.inr (some (2, i))] (c, σ, g, τ) = some (.inl none, (cu (cu c 11) 11, mq_cr (mq_cr σ 11 (c 11) 0) 11 (c 11 + 1) 0, mq_up (mq_cr (mq_up (mq_cr g 11 (c 11) none) 2 i 0 (some (11, c 11))) 11 (c 11 + 1) none) 2 i 1 (some (11, c 11 + 1)), mq_cr (mq_cr τ 11 (c 11) 0) 11 (c 11 + 1) 0)) := rfl
theorem c8T (f : Nat) : pX (f + 19) (d + 1) 8 [.inr (some (1, i))] (c, σ, g, τ) = some (.inl none, (cu (cu (cu (cu c 14) 14) 14) 14, mq_cr (mq_cr (mq_cr (mq_cr σ 14 (c 14) 0) 14 (c 14 + 1) 0) 14 (c 14 + 1 + 1) 0) 14 (c 14 + 1 + 1 + 1) 0, mq_up (mq_cr (mq_up (mq_cr (mq_up (mq_cr (mq_up (mq_cr g 14 (c 14) none) 1 i 0 (some (14, c 14))) 14 (c 14 + 1) none) 1 i 1 (some (14, c 14 + 1))) 14 (c 14 + 1 + 1) none) 1 i 2 (some (14, c 14 + 1 + 1))) 14 (c 14 + 1 + 1 + 1) none) 1 i 3 (some (14, c 14 + 1 + 1 + 1)), mq_cr (mq_cr (mq_cr (mq_cr τ 14 (c 14) 0) 14 (c 14 + 1) 0) 14 (c 14 + 1 + 1) 0) 14 (c 14 + 1 + 1 + 1) 0)) := rfl
end LEAF
