/-! Class and reference, cell by cell: which cells say the same. -/
theorem up_eq {α : Type} (f : Nat → Nat → Nat → α) (k i j : Nat) (v : α) : mq_up f k i j v k i j = v := by simp [mq_up]
theorem up_nk {α : Type} {f : Nat → Nat → Nat → α} {k i j k' i' j' : Nat} {v : α} (h : k' ≠ k) : mq_up f k i j v k' i' j' = f k' i' j' := by simp [mq_up, h]
theorem up_ni {α : Type} {f : Nat → Nat → Nat → α} {k i j k' i' j' : Nat} {v : α} (h : i' ≠ i) : mq_up f k i j v k' i' j' = f k' i' j' := by simp [mq_up, h]
theorem up_nj {α : Type} {f : Nat → Nat → Nat → α} {k i j k' i' j' : Nat} {v : α} (h : j' ≠ j) : mq_up f k i j v k' i' j' = f k' i' j' := by simp [mq_up, h]
/-- a class's Proc field: the reference's array -/
def lkF : Nat → Nat
  | 2 => 32
  | 3 => 33
  | 4 => 34
  | 5 => 35
  | 6 => 36
  | 7 => 37
  | 8 => 38
  | 9 => 43
  | 10 => 39
  | 11 => 40
  | 13 => 42
  | _ => 0
/-- the reference's cell that says what a class's cell says -/
def lk (k i j : Nat) : Option (Nat × Nat × Nat) := match k with
  | 0 => if i < 8 then (match j with
    | 1 => some (32, 0, i)
    | 2 => some (11, 12, i)
    | 3 => some (11, 13, i)
    | 4 => some (11, 14, i)
    | 6 => some (11, 15, i)
    | _ => none) else none
  | 1 => if i = 0 ∧ j = 4 then some (7, 0, 36) else none
  | 2 => if i = 0 ∧ j = 2 then some (7, 0, 3) else none
  | 4 => if i < 4 then (match j with
    | 5 => some (10, 8, i)
    | 7 => some (10, 9, i)
    | 8 => some (31, 0, i)
    | _ => none) else none
  | 5 => if i < 32 ∧ lkF j ≠ 0 then some (13, lkF j, i) else none
  | 6 => if i = 0 then (match j with
    | 4 => some (7, 0, 28)
    | 5 => some (7, 0, 2)
    | 6 => some (7, 0, 5)
    | 7 => some (7, 0, 1)
    | _ => none) else none
  | 10 => if i < 8 ∧ j < 4 then (if i % 2 = 0 then some (12, 1, 4 * (i / 2) + j) else some (12, 0, 4 * (i / 2) + j)) else none
  | 11 => if i < 2 ∧ j < 8 then some (11, 10 + i, j) else none
  | 13 => if i < 32 ∧ j < 32 then some (16, 0, 32 * i + j) else none
  | 14 => if i < 4 ∧ j < 64 then some (14, 5 + i, j) else none
  | _ => none
/-- the cell back -/
def kl (k i j : Nat) : Option (Nat × Nat × Nat) := match k with
  | 32 => some (0, j, 1)
  | 11 => (match i with
    | 12 => some (0, j, 2)
    | 13 => some (0, j, 3)
    | 14 => some (0, j, 4)
    | 15 => some (0, j, 6)
    | 10 => some (11, 0, j)
    | 11 => some (11, 1, j)
    | _ => none)
  | 7 => (match j with
    | 36 => some (1, 0, 4)
    | 3 => some (2, 0, 2)
    | 28 => some (6, 0, 4)
    | 2 => some (6, 0, 5)
    | 5 => some (6, 0, 6)
    | 1 => some (6, 0, 7)
    | _ => none)
  | 10 => (match i with
    | 8 => some (4, j, 5)
    | 9 => some (4, j, 7)
    | _ => none)
  | 31 => some (4, j, 8)
  | 13 => (match i with
    | 32 => some (5, j, 2)
    | 33 => some (5, j, 3)
    | 34 => some (5, j, 4)
    | 35 => some (5, j, 5)
    | 36 => some (5, j, 6)
    | 37 => some (5, j, 7)
    | 38 => some (5, j, 8)
    | 43 => some (5, j, 9)
    | 39 => some (5, j, 10)
    | 40 => some (5, j, 11)
    | 42 => some (5, j, 13)
    | _ => none)
  | 12 => (match i with
    | 1 => some (10, 2 * (j / 4), j % 4)
    | 0 => some (10, 2 * (j / 4) + 1, j % 4)
    | _ => none)
  | 16 => some (13, j / 32, j % 32)
  | 14 => (match i with
    | 5 => some (14, 0, j)
    | 6 => some (14, 1, j)
    | 7 => some (14, 2, j)
    | 8 => some (14, 3, j)
    | _ => none)
  | _ => none
/-- the reference's cells -/
def isM (k i : Nat) : Bool := match k with
  | 7 => true
  | 12 => true
  | 16 => true
  | 30 => true
  | 31 => true
  | 32 => true
  | 10 => decide (8 ≤ i)
  | 11 => decide (10 ≤ i)
  | 13 => decide (32 ≤ i)
  | 14 => decide (4 ≤ i)
  | _ => false
theorem lkF_cases {j : Nat} (h : lkF j ≠ 0) : j = 2 ∨ j = 3 ∨ j = 4 ∨ j = 5 ∨ j = 6 ∨ j = 7 ∨ j = 8 ∨ j = 9 ∨ j = 10 ∨ j = 11 ∨ j = 13 := by
  unfold lkF at h
  split at h <;> simp_all
theorem lk_spec {k i j k' i' j' : Nat} (h : lk k i j = some (k', i', j')) : kl k' i' j' = some (k, i, j) ∧ isM k i = false ∧ isM k' i' = true := by
  unfold lk at h
  split at h
  · split at h
    · split at h <;> first | (cases h; exact ⟨rfl, rfl, rfl⟩) | cases h
    · cases h
  · split at h
    · rename_i hc; obtain ⟨rfl, rfl⟩ := hc; cases h; exact ⟨rfl, rfl, rfl⟩
    · cases h
  · split at h
    · rename_i hc; obtain ⟨rfl, rfl⟩ := hc; cases h; exact ⟨rfl, rfl, rfl⟩
    · cases h
  · split at h
    · split at h <;> first | (cases h; exact ⟨rfl, rfl, rfl⟩) | cases h
    · cases h
  · split at h
    · rename_i hc
      rcases lkF_cases hc.2 with rfl | rfl | rfl | rfl | rfl | rfl | rfl | rfl | rfl | rfl | rfl <;> (cases h; exact ⟨rfl, rfl, rfl⟩)
    · cases h
  · split at h
    · rename_i hc
      subst hc
      split at h <;> first | (cases h; exact ⟨rfl, rfl, rfl⟩) | cases h
    · cases h
  · split at h
    · rename_i hc
      have h8 : ¬ 8 ≤ i := by omega
      split at h
      · rename_i hm
        cases h
        refine ⟨?_, by simp [isM, h8], rfl⟩
        show some (10, 2 * ((4 * (i / 2) + j) / 4), (4 * (i / 2) + j) % 4) = some (10, i, j)
        rw [show 2 * ((4 * (i / 2) + j) / 4) = i by omega, show (4 * (i / 2) + j) % 4 = j by omega]
      · rename_i hm
        cases h
        refine ⟨?_, by simp [isM, h8], rfl⟩
        show some (10, 2 * ((4 * (i / 2) + j) / 4) + 1, (4 * (i / 2) + j) % 4) = some (10, i, j)
        rw [show 2 * ((4 * (i / 2) + j) / 4) + 1 = i by omega, show (4 * (i / 2) + j) % 4 = j by omega]
    · cases h
  · split at h
    · rename_i hc
      cases h
      rcases (show i = 0 ∨ i = 1 by omega) with rfl | rfl <;> exact ⟨rfl, rfl, rfl⟩
    · cases h
  · split at h
    · rename_i hc
      cases h
      have h8 : ¬ 32 ≤ i := by omega
      refine ⟨?_, by simp [isM, h8], rfl⟩
      show some (13, (32 * i + j) / 32, (32 * i + j) % 32) = some (13, i, j)
      rw [show (32 * i + j) / 32 = i by omega, show (32 * i + j) % 32 = j by omega]
    · cases h
  · split at h
    · rename_i hc
      cases h
      rcases (show i = 0 ∨ i = 1 ∨ i = 2 ∨ i = 3 by omega) with rfl | rfl | rfl | rfl <;> exact ⟨rfl, rfl, rfl⟩
    · cases h
  · cases h
/-- class's memory σ and reference's memory μ say the same; the others' cells are as they were -/
def Rel (σ0 μ0 σ μ : mSg) : Prop := (∀ k i j k' i' j', lk k i j = some (k', i', j') → σ k i j = μ k' i' j') ∧ (∀ k i j, isM k i = true → σ k i j = σ0 k i j) ∧ (∀ k i j, isM k i = false → μ k i j = μ0 k i j) ∧ μ 7 0 0 = μ0 7 0 0
section REL
variable {σ0 μ0 σ μ : mSg} {k i j k' i' j' : Nat}
theorem Rel.get (h : Rel σ0 μ0 σ μ) (e : lk k i j = some (k', i', j')) : μ k' i' j' = σ k i j := (h.1 _ _ _ _ _ _ e).symm
theorem up_if (f : mSg) (k i j : Nat) (v : Int32) (a b c : Nat) : mq_up f k i j v a b c = if a = k ∧ b = i ∧ c = j then v else f a b c := rfl
theorem Rel.both (h : Rel σ0 μ0 σ μ) (e : lk k i j = some (k', i', j')) (x : Int32) : Rel σ0 μ0 (mq_up σ k i j x) (mq_up μ k' i' j' x) := by
  obtain ⟨e1, e2, e3⟩ := lk_spec e
  refine ⟨fun a b c a' b' c' e' => ?_, fun a b c ha => ?_, fun a b c ha => ?_, ?_⟩
  · obtain ⟨f1, f2, f3⟩ := lk_spec e'
    rw [up_if, up_if]
    by_cases hq : a = k ∧ b = i ∧ c = j
    · obtain ⟨rfl, rfl, rfl⟩ := hq
      rw [e] at e'
      cases e'
      rw [if_pos ⟨rfl, rfl, rfl⟩, if_pos ⟨rfl, rfl, rfl⟩]
    · rw [if_neg hq, if_neg, h.1 _ _ _ _ _ _ e']
      rintro ⟨rfl, rfl, rfl⟩
      rw [e1] at f1
      cases f1
      exact hq ⟨rfl, rfl, rfl⟩
  · rw [up_if, if_neg, h.2.1 a b c ha]
    rintro ⟨rfl, rfl, rfl⟩
    rw [e2] at ha; cases ha
  · rw [up_if, if_neg, h.2.2.1 a b c ha]
    rintro ⟨rfl, rfl, rfl⟩
    rw [e3] at ha; cases ha
  · rw [up_if, if_neg, h.2.2.2]
    rintro ⟨rfl, rfl, rfl⟩
    cases e1
theorem Rel.left (h : Rel σ0 μ0 σ μ) (e : lk k i j = none) (hm : isM k i = false) (x : Int32) : Rel σ0 μ0 (mq_up σ k i j x) μ := by
  refine ⟨fun a b c a' b' c' e' => ?_, fun a b c ha => ?_, h.2.2⟩
  · rw [up_if, if_neg, h.1 _ _ _ _ _ _ e']
    rintro ⟨rfl, rfl, rfl⟩
    rw [e] at e'; cases e'
  · rw [up_if, if_neg, h.2.1 a b c ha]
    rintro ⟨rfl, rfl, rfl⟩
    rw [hm] at ha; cases ha
theorem Rel.right (h : Rel σ0 μ0 σ μ) (e : kl k' i' j' = none) (hm : isM k' i' = true) (x : Int32) (hn : ¬ (k' = 7 ∧ i' = 0 ∧ j' = 0) := by omega) : Rel σ0 μ0 σ (mq_up μ k' i' j' x) := by
  refine ⟨fun a b c a' b' c' e' => ?_, h.2.1, fun a b c ha => ?_, ?_⟩
  · obtain ⟨f1, f2, f3⟩ := lk_spec e'
    rw [up_if, if_neg, h.1 _ _ _ _ _ _ e']
    rintro ⟨rfl, rfl, rfl⟩
    rw [e] at f1; cases f1
  · rw [up_if, if_neg, h.2.2.1 a b c ha]
    rintro ⟨rfl, rfl, rfl⟩
    rw [hm] at ha; cases ha
  · rw [up_if, if_neg (fun c => hn ⟨c.1.symm, c.2.1.symm, c.2.2.symm⟩), h.2.2.2]
theorem Rel.start (h : Rel σ0 μ0 σ μ) : Rel σ μ σ μ := ⟨h.1, fun _ _ _ _ => rfl, fun _ _ _ _ => rfl, rfl⟩
theorem Rel.thr (h : Rel σ0 μ0 σ μ) (v : Int32) : Rel σ (mq_up μ 7 0 0 v) σ (mq_up μ 7 0 0 v) := by
  refine ⟨fun a b c a' b' c' e' => ?_, fun _ _ _ _ => rfl, fun _ _ _ _ => rfl, rfl⟩
  obtain ⟨f1, f2, f3⟩ := lk_spec e'
  rw [up_if, if_neg, h.1 _ _ _ _ _ _ e']
  rintro ⟨rfl, rfl, rfl⟩
  cases f1
end REL
theorem lk_p {K j : Nat} (hK : K < 32) (hj : lkF j ≠ 0) : lk 5 K j = some (13, lkF j, K) := by simp [lk, hK, hj]
theorem lk_r {K x : Nat} (hK : K < 32) (hx : x < 32) : lk 13 K x = some (16, 0, 32 * K + x) := by simp [lk, hK, hx]
theorem lk_s {p s : Nat} (hp : p < 4) (hs : s < 4) : lk 10 (2 * p) s = some (12, 1, 4 * p + s) := by
  have h1 : 2 * p < 8 := by omega
  have h2 : 2 * p / 2 = p := by omega
  simp [lk, h1, hs, h2]
theorem lk_a {p s : Nat} (hp : p < 4) (hs : s < 4) : lk 10 (2 * p + 1) s = some (12, 0, 4 * p + s) := by
  have h1 : 2 * p + 1 < 8 := by omega
  have h2 : (2 * p + 1) / 2 = p := by omega
  have h3 : (2 * p + 1) % 2 = 1 := by omega
  simp [lk, h1, hs, h2, h3]
theorem lk_4 {p j : Nat} (hp : p < 4) {r : Nat × Nat × Nat} (h : (match j with
    | 5 => some (10, 8, p)
    | 7 => some (10, 9, p)
    | 8 => some (31, 0, p)
    | _ => none) = some r) : lk 4 p j = some r := by
  unfold lk
  simp only [hp, if_true]
  exact h
/-- zeros in a stretch -/
def mq_zr (σ : mSg) (k i a n : Nat) : mSg := fun k' i' j' => if k' = k ∧ i' = i ∧ a ≤ j' ∧ j' < a + n then 0 else σ k' i' j'
theorem zr_0 (σ : mSg) (k i a : Nat) : mq_zr σ k i a 0 = σ := by
  funext k' i' j'
  unfold mq_zr
  rw [if_neg]
  omega
theorem zr_s (σ : mSg) (k i a n : Nat) : mq_up (mq_zr σ k i a n) k i (a + n) 0 = mq_zr σ k i a (n + 1) := by
  funext k' i' j'
  unfold mq_zr
  rw [up_if]
  by_cases h : k' = k ∧ i' = i ∧ j' = a + n
  · rw [if_pos h, if_pos ⟨h.1, h.2.1, by omega, by omega⟩]
  · rw [if_neg h]
    by_cases h2 : k' = k ∧ i' = i ∧ a ≤ j' ∧ j' < a + n
    · rw [if_pos h2, if_pos ⟨h2.1, h2.2.1, h2.2.2.1, by omega⟩]
    · rw [if_neg h2, if_neg]
      rintro ⟨h3, h4, h5, h6⟩
      by_cases h7 : j' = a + n
      · exact h ⟨h3, h4, h7⟩
      · exact h2 ⟨h3, h4, h5, by omega⟩
theorem Rel.zregs {σ0 μ0 σ μ : mSg} (h : Rel σ0 μ0 σ μ) {K : Nat} (hK : K < 32) : ∀ n, n ≤ 32 → Rel σ0 μ0 (mq_zr σ 13 K 0 n) (mq_zr μ 16 0 (32 * K) n)
  | 0, _ => by rw [zr_0, zr_0]; exact h
  | n + 1, hn => by
    have h1 := (Rel.zregs h hK n (by omega)).both (lk_r hK (show 0 + n < 32 by omega)) 0
    rw [zr_s, show 32 * K + (0 + n) = 32 * K + n by omega, zr_s] at h1
    exact h1
theorem Rel.zsems {σ0 μ0 σ μ : mSg} (h : Rel σ0 μ0 σ μ) {p : Nat} (hp : p < 4) : ∀ n, n ≤ 4 → Rel σ0 μ0 (mq_zr σ 10 (2 * p) 0 n) (mq_zr μ 12 1 (4 * p) n)
  | 0, _ => by rw [zr_0, zr_0]; exact h
  | n + 1, hn => by
    have h1 := (Rel.zsems h hp n (by omega)).both (lk_s hp (show 0 + n < 4 by omega)) 0
    rw [zr_s, show 4 * p + (0 + n) = 4 * p + n by omega, zr_s] at h1
    exact h1
