/-! Numbers; who came first. -/
theorem nI_mul (a b : Nat) : nI a * nI b = nI (a * b) := (Int32.ofNat_mul a b).symm
theorem ix_lin (a K x : Nat) : nI a * nI K + nI x = nI (a * K + x) := by rw [nI_mul, nI_add]
theorem ix32 (K x : Nat) : (32 * nI K + nI x : Int32) = nI (32 * K + x) := ix_lin 32 K x
theorem ix8 (K x : Nat) : (8 * nI K + nI x : Int32) = nI (8 * K + x) := ix_lin 8 K x
theorem ix4 (K x : Nat) : (4 * nI K + nI x : Int32) = nI (4 * K + x) := ix_lin 4 K x
theorem of_lt {x : Int32} {n : Nat} (hn : n < 2 ^ 31) (h0 : ¬ x < 0) (h1 : x < nI n) : ∃ j, j < n ∧ x = nI j := by
  obtain ⟨j, hj, rfl⟩ := nI_of h0
  exact ⟨j, (nI_ltI hj hn).mp h1, rfl⟩
def upf (f : Nat → Int32) (a : Nat) (x : Int32) : Nat → Int32 := fun k => if k = a then x else f k
theorem upf_eq (f : Nat → Int32) (a : Nat) (x : Int32) : upf f a x a = x := by simp [upf]
theorem upf_ne {f : Nat → Int32} {a k : Nat} {x : Int32} (h : k ≠ a) : upf f a x k = f k := by simp [upf, h]
/-- in each partition: of two that are ready (or that both wait for a semaphore), the class's order numbers say what the reference's turns say -/
def OP (b t : Nat) (st od : Nat → Int32) (nx : Int32) (tu : Nat → Int32) (p : Nat) : Prop :=
  ∃ (n : Nat) (o u : Nat → Nat), n ≤ b ∧ nx = nI n ∧ (∀ q, q < 8 → (st (8 * p + q) = 1 ∨ st (8 * p + q) = 3) → od (8 * p + q) = nI (o q) ∧ tu (8 * p + q) = nI (u q) ∧ o q < n ∧ u q < t) ∧
    ∀ q r, q < 8 → r < 8 → (st (8 * p + q) = 1 ∨ st (8 * p + q) = 3) → st (8 * p + r) = st (8 * p + q) → (o q < o r ↔ u q < u r)
def OG (b : Nat) (st od nx tu : Nat → Int32) (tt : Int32) : Prop := ∃ t, t ≤ b ∧ tt = nI t ∧ ∀ p, p < 4 → OP b t st od (nx p) tu p
theorem OP.mono {b b' t t' : Nat} {st od tu : Nat → Int32} {nx : Int32} {p : Nat} (h : OP b t st od nx tu p) (hb : b ≤ b') (ht : t ≤ t') : OP b' t' st od nx tu p := by
  obtain ⟨n, o, u, h1, h2, h3, h4⟩ := h
  exact ⟨n, o, u, by omega, h2, fun q hq hs => by obtain ⟨a1, a2, a3, a4⟩ := h3 q hq hs; exact ⟨a1, a2, a3, by omega⟩, h4⟩
theorem OG.mono {b b' : Nat} {st od nx tu : Nat → Int32} {tt : Int32} (h : OG b st od nx tu tt) (hb : b ≤ b') : OG b' st od nx tu tt := by
  obtain ⟨t, h1, h2, h3⟩ := h
  exact ⟨t, by omega, h2, fun p hp => (h3 p hp).mono hb (Nat.le_refl _)⟩
/-- other partitions see nothing -/
theorem OP.off {b t : Nat} {st od tu st' od' tu' : Nat → Int32} {nx : Int32} {p : Nat} (h : OP b t st od nx tu p) (hs : ∀ q, q < 8 → st' (8 * p + q) = st (8 * p + q)) (ho : ∀ q, q < 8 → od' (8 * p + q) = od (8 * p + q)) (hu : ∀ q, q < 8 → tu' (8 * p + q) = tu (8 * p + q)) : OP b t st' od' nx tu' p := by
  obtain ⟨n, o, u, h1, h2, h3, h4⟩ := h
  refine ⟨n, o, u, h1, h2, fun q hq hst => ?_, fun q r hq hr hst hrq => ?_⟩
  · rw [hs q hq] at hst
    rw [ho q hq, hu q hq]
    exact h3 q hq hst
  · rw [hs q hq] at hst
    rw [hs q hq, hs r hr] at hrq
    exact h4 q r hq hr hst hrq
theorem OG.bump {b : Nat} {st od nx tu : Nat → Int32} {tt : Int32} (h : OG b st od nx tu tt) {p q : Nat} (hp : p < 4) (hq : q < 8) (v : Int32) :
    OG (b + 1) (upf st (8 * p + q) v) (upf od (8 * p + q) (nx p)) (upf nx p (nx p + 1)) (upf tu (8 * p + q) tt) (tt + 1) := by
  obtain ⟨t, h1, h2, h3⟩ := h
  refine ⟨t + 1, by omega, by rw [h2, nI_1], fun p' hp' => ?_⟩
  by_cases hpp : p' = p
  · subst hpp
    obtain ⟨n, o, u, g1, g2, g3, g4⟩ := h3 p' hp'
    rw [upf_eq, g2, nI_1]
    refine ⟨n + 1, fun r => if r = q then n else o r, fun r => if r = q then t else u r, by omega, rfl, fun r hr hst => ?_, fun r s hr hs hst hrs => ?_⟩
    · by_cases hrq : r = q
      · subst hrq
        rw [upf_eq, upf_eq]
        show nI n = nI (if r = r then n else o r) ∧ tt = nI (if r = r then t else u r) ∧ (if r = r then n else o r) < n + 1 ∧ (if r = r then t else u r) < t + 1
        rw [if_pos rfl, if_pos rfl]
        exact ⟨rfl, h2, by omega, by omega⟩
      · have hne : 8 * p' + r ≠ 8 * p' + q := by omega
        rw [upf_ne hne] at hst
        rw [upf_ne hne, upf_ne hne]
        show od (8 * p' + r) = nI (if r = q then n else o r) ∧ tu (8 * p' + r) = nI (if r = q then t else u r) ∧ (if r = q then n else o r) < n + 1 ∧ (if r = q then t else u r) < t + 1
        rw [if_neg hrq, if_neg hrq]
        obtain ⟨a1, a2, a3, a4⟩ := g3 r hr hst
        exact ⟨a1, a2, by omega, by omega⟩
    · by_cases hrq : r = q
      · subst hrq
        by_cases hsq : s = r
        · subst hsq
          simp
        · have hne : 8 * p' + s ≠ 8 * p' + r := by omega
          rw [upf_ne hne] at hrs
          rw [hrs.symm] at hst
          obtain ⟨a1, a2, a3, a4⟩ := g3 s hs hst
          simp only [if_true, if_neg hsq]
          omega
      · have hne : 8 * p' + r ≠ 8 * p' + q := by omega
        rw [upf_ne hne] at hst hrs
        by_cases hsq : s = q
        · subst hsq
          obtain ⟨a1, a2, a3, a4⟩ := g3 r hr hst
          simp only [if_true, if_neg hrq]
          omega
        · have hne2 : 8 * p' + s ≠ 8 * p' + q := by omega
          rw [upf_ne hne2] at hrs
          simp only [if_neg hrq, if_neg hsq]
          exact g4 r s hr hs hst hrs
  · rw [upf_ne hpp]
    refine ((h3 p' hp').mono (by omega) (by omega)).off (fun r hr => upf_ne (by omega)) (fun r hr => upf_ne (by omega)) (fun r hr => upf_ne (by omega))
theorem OG.rest {b : Nat} {st od nx tu : Nat → Int32} {tt : Int32} (h : OG b st od nx tu tt) {p q : Nat} (hp : p < 4) (hq : q < 8) {v : Int32} (hv : ¬ (v = 1 ∨ v = 3)) :
    OG (b + 1) (upf st (8 * p + q) v) (upf od (8 * p + q) (nx p)) (upf nx p (nx p + 1)) tu tt := by
  obtain ⟨t, h1, h2, h3⟩ := h
  refine ⟨t, by omega, h2, fun p' hp' => ?_⟩
  by_cases hpp : p' = p
  · subst hpp
    obtain ⟨n, o, u, g1, g2, g3, g4⟩ := h3 p' hp'
    rw [upf_eq, g2, nI_1]
    refine ⟨n + 1, o, u, by omega, rfl, fun r hr hst => ?_, fun r s hr hs hst hrs => ?_⟩
    · by_cases hrq : r = q
      · subst hrq
        rw [upf_eq] at hst
        exact absurd hst hv
      · have hne : 8 * p' + r ≠ 8 * p' + q := by omega
        rw [upf_ne hne] at hst
        rw [upf_ne hne]
        obtain ⟨a1, a2, a3, a4⟩ := g3 r hr hst
        exact ⟨a1, a2, by omega, a4⟩
    · by_cases hrq : r = q
      · subst hrq
        rw [upf_eq] at hst
        exact absurd hst hv
      · have hne : 8 * p' + r ≠ 8 * p' + q := by omega
        rw [upf_ne hne] at hst hrs
        by_cases hsq : s = q
        · subst hsq
          rw [upf_eq] at hrs
          rw [← hrs] at hst
          exact absurd hst hv
        · have hne2 : 8 * p' + s ≠ 8 * p' + q := by omega
          rw [upf_ne hne2] at hrs
          exact g4 r s hr hs hst hrs
  · rw [upf_ne hpp]
    exact ((h3 p' hp').mono (by omega) (Nat.le_refl _)).off (fun r hr => upf_ne (by omega)) (fun r hr => upf_ne (by omega)) (fun _ _ => rfl)
/-- of two alike, both numbers say the same -/
theorem OG.lt {b : Nat} {st od nx tu : Nat → Int32} {tt : Int32} (h : OG b st od nx tu tt) (hb : b < 2 ^ 31) {p q r : Nat} (hp : p < 4) (hq : q < 8) (hr : r < 8) (hs : st (8 * p + q) = 1 ∨ st (8 * p + q) = 3) (hrs : st (8 * p + r) = st (8 * p + q)) : od (8 * p + q) < od (8 * p + r) ↔ tu (8 * p + q) < tu (8 * p + r) := by
  obtain ⟨t, h1, h2, h3⟩ := h
  obtain ⟨n, o, u, g1, g2, g3, g4⟩ := h3 p hp
  obtain ⟨a1, a2, a3, a4⟩ := g3 q hq hs
  obtain ⟨b1, b2, b3, b4⟩ := g3 r hr (by rw [hrs]; exact hs)
  rw [a1, a2, b1, b2, nI_ltI (by omega) (by omega), nI_ltI (by omega) (by omega)]
  exact g4 q r hq hr hs hrs
/-- the first of those that are meant, by who leads -/
def bst (ok : Nat → Bool) (ld : Nat → Nat → Bool) : Nat → Option Nat
  | 0 => none
  | n + 1 => match bst ok ld n with
    | none => if ok n then some n else none
    | some m => if ok n && ld n m then some n else some m
theorem bst_ok {ok : Nat → Bool} {ld : Nat → Nat → Bool} : ∀ {n m : Nat}, bst ok ld n = some m → m < n ∧ ok m = true
  | 0, m, h => by cases h
  | n + 1, m, h => by
    unfold bst at h
    split at h
    · split at h
      · rename_i hn
        cases h
        exact ⟨by omega, hn⟩
      · cases h
    · rename_i m' hm
      obtain ⟨g1, g2⟩ := bst_ok hm
      split at h
      · rename_i hn
        cases h
        simp only [Bool.and_eq_true] at hn
        exact ⟨by omega, hn.1⟩
      · cases h
        exact ⟨by omega, g2⟩
theorem bst_congr {ok ok' : Nat → Bool} {ld ld' : Nat → Nat → Bool} : ∀ {n : Nat}, (∀ m, m < n → ok m = ok' m) → (∀ m r, m < n → r < n → ok m = true → ok r = true → ld m r = ld' m r) → bst ok ld n = bst ok' ld' n
  | 0, _, _ => rfl
  | n + 1, h1, h2 => by
    have ih := bst_congr (n := n) (fun m hm => h1 m (by omega)) (fun m r hm hr => h2 m r (by omega) (by omega))
    unfold bst
    rw [← ih, h1 n (by omega)]
    cases hb : bst ok ld n with
    | none => rfl
    | some m =>
      obtain ⟨g1, g2⟩ := bst_ok hb
      show (if ok' n && ld n m then some n else some m) = if ok' n && ld' n m then some n else some m
      cases hn : ok' n with
      | false => rfl
      | true => rw [h2 n m (by omega) (by omega) (by rw [h1 n (by omega)]; exact hn) g2]
theorem bst_s {ok : Nat → Bool} {ld : Nat → Nat → Bool} {n : Nat} : bst ok ld (n + 1) = match bst ok ld n with
    | none => if ok n then some n else none
    | some m => if ok n && ld n m then some n else some m := rfl
