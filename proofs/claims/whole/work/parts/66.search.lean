/-! Who is first: both sides' searches. -/
def ldC (σ : mSg) (K K' : Nat) : Bool := if σ 5 K 3 = σ 5 K' 3 then decide (σ 5 K 12 < σ 5 K' 12) else decide (σ 5 K' 3 < σ 5 K 3)
def okC (σ : mSg) (p : Nat) (x1 x2 : Int32) (q : Nat) : Bool := decide (σ 5 (8 * p + q) 7 = x1) && decide (σ 5 (8 * p + q) 11 = x2)
def rf5 (p : Nat) (o : Option Nat) : mRf := o.map (fun q => (5, 8 * p + q))
def okS (σ : mSg) (p : Nat) (now : Int32) (q : Nat) : Bool := decide (σ 5 (8 * p + q) 7 = 2) && !decide (now < σ 5 (8 * p + q) 10)
def ldS (σ : mSg) (p q r : Nat) : Bool := decide (σ 5 (8 * p + q) 10 < σ 5 (8 * p + r) 10)
def okM (μ : mSg) (p q : Nat) : Bool := decide (μ 13 37 (8 * p + q) = 1)
def okB (μ : mSg) (p : Nat) (a : Int32) (q : Nat) : Bool := decide (μ 13 37 (8 * p + q) = 3) && decide (μ 13 40 (8 * p + q) = a)
def ldM (μ : mSg) (p q r : Nat) : Bool := decide (μ 13 33 (8 * p + r) < μ 13 33 (8 * p + q)) || (decide (μ 13 33 (8 * p + q) = μ 13 33 (8 * p + r)) && decide (μ 13 41 (8 * p + q) < μ 13 41 (8 * p + r)))
def okW (μ : mSg) (p q : Nat) : Bool := decide (μ 13 37 (8 * p + q) = 2) && !decide (μ 7 0 2 < μ 13 39 (8 * p + q))
def ldW (μ : mSg) (p q r : Nat) : Bool := decide (μ 13 39 (8 * p + q) < μ 13 39 (8 * p + r))
def bI (p : Nat) (o : Option Nat) : Int32 := match o with
  | none => -1
  | some q => nI (8 * p + q)
theorem nI_m1 {n : Nat} (h : n < 2 ^ 31) : ¬ nI n = -1 := fun e => by
  have h1 := nI_pos h
  rw [e] at h1
  exact h1 (by decide)
section SEARCH
variable {d p q K K' b N : Nat} {σ μ σ0 μ0 : mSg} {x1 x2 now : Int32}
theorem S48 : Sp (d + 1) 48 [.inr (some (5, K)), .inr (some (5, K'))] σ (.inl (some (.inl (if ldC σ K K' then 1 else 0)))) σ := by
  unfold ldC
  by_cases h : σ 5 K 3 = σ 5 K' 3
  · rw [if_pos h]
    by_cases h2 : σ 5 K 12 < σ 5 K' 12
    · simp only [h2, decide_true, if_true]; exact P48_1 h h2
    · simp only [h2, decide_false]; exact P48_2 h h2
  · rw [if_neg h]
    by_cases h2 : σ 5 K' 3 < σ 5 K 3
    · simp only [h2, decide_true, if_true]; exact P48_3 h h2
    · simp only [h2, decide_false]; exact P48_4 h h2
theorem L31 (hN : N ≤ 8) (hc : σ 4 p 5 = nI N) : ∀ m i, i + m = N → ∀ r5 : Nat, Rn (d + 1) 31 5 [(0, .inr (some (4, p))), (1, .inl x1), (2, .inl x2), (3, .inr (rf5 p (bst (okC σ p x1 x2) (fun q r => ldC σ (8 * p + q) (8 * p + r)) i))), (4, .inl (nI i)), (5, .inr (some (5, r5)))] [] σ (.inl (some (.inr (rf5 p (bst (okC σ p x1 x2) (fun q r => ldC σ (8 * p + q) (8 * p + r)) N))))) σ
  | 0, i, h, r5 => by
    have e : i = N := by omega
    subst e
    have hx : ¬ nI i < σ 4 p 5 := by rw [hc]; exact fun h => Int32.lt_irrefl h
    cases hq : bst (okC σ p x1 x2) (fun q r => ldC σ (8 * p + q) (8 * p + r)) i with
    | none => exact P31_5a_5 hx
    | some m => exact P31_5b_5 hx
  | m + 1, i, h, r5 => by
    have ih := L31 hN hc m (i + 1) (by omega)
    have e := nI_clamp (n := i) (by omega)
    have hlt : nI i < σ 4 p 5 := by rw [hc]; exact (nI_ltI (by omega) (by omega)).mpr (by omega)
    have hb : ¬ (nI i < 0 ∨ 8 ≤ (nI i).toNatClampNeg) := nI_in (by omega) (by decide)
    cases hq : bst (okC σ p x1 x2) (fun q r => ldC σ (8 * p + q) (8 * p + r)) i with
    | none =>
      by_cases h7 : σ 5 (8 * p + i) 7 = x1
      · by_cases h11 : σ 5 (8 * p + i) 11 = x2
        · have hs : bst (okC σ p x1 x2) (fun q r => ldC σ (8 * p + q) (8 * p + r)) (i + 1) = some i := by rw [bst_s, hq]; simp [okC, h7, h11]
          refine P31_5a_2 hlt hb (by rw [e]; exact h7) (by rw [e]; exact h11) P48x_1 (by decide) ?_
          have ih := ih (8 * p + i)
          rw [hs] at ih
          rw [e, nI_1]
          exact ih
        · have hs : bst (okC σ p x1 x2) (fun q r => ldC σ (8 * p + q) (8 * p + r)) (i + 1) = none := by rw [bst_s, hq]; simp [okC, h11]
          refine P31_5a_3 hlt hb (by rw [e]; exact h7) (by rw [e]; exact h11) ?_
          have ih := ih (8 * p + i)
          rw [hs] at ih
          rw [e, nI_1]
          exact ih
      · have hs : bst (okC σ p x1 x2) (fun q r => ldC σ (8 * p + q) (8 * p + r)) (i + 1) = none := by rw [bst_s, hq]; simp [okC, h7]
        refine P31_5a_4 hlt hb (by rw [e]; exact h7) ?_
        have ih := ih (8 * p + i)
        rw [hs] at ih
        rw [e, nI_1]
        exact ih
    | some m =>
      by_cases h7 : σ 5 (8 * p + i) 7 = x1
      · by_cases h11 : σ 5 (8 * p + i) 11 = x2
        · cases hl : ldC σ (8 * p + i) (8 * p + m) with
          | true =>
            have hs : bst (okC σ p x1 x2) (fun q r => ldC σ (8 * p + q) (8 * p + r)) (i + 1) = some i := by rw [bst_s, hq]; simp [okC, h7, h11, hl]
            have s48 := S48 (d := d) (K := 8 * p + i) (K' := 8 * p + m) (σ := σ)
            rw [hl] at s48
            refine P31_5b_2 hlt hb (by rw [e]; exact h7) (by rw [e]; exact h11) (by rw [e]; exact s48) (by decide) ?_
            have ih := ih (8 * p + i)
            rw [hs] at ih
            rw [e, nI_1]
            exact ih
          | false =>
            have hs : bst (okC σ p x1 x2) (fun q r => ldC σ (8 * p + q) (8 * p + r)) (i + 1) = some m := by rw [bst_s, hq]; simp [okC, h7, h11, hl]
            have s48 := S48 (d := d) (K := 8 * p + i) (K' := 8 * p + m) (σ := σ)
            rw [hl] at s48
            refine P31_5b_1 hlt hb (by rw [e]; exact h7) (by rw [e]; exact h11) (by rw [e]; exact s48) (by decide) ?_
            have ih := ih (8 * p + i)
            rw [hs] at ih
            rw [e, nI_1]
            exact ih
        · have hs : bst (okC σ p x1 x2) (fun q r => ldC σ (8 * p + q) (8 * p + r)) (i + 1) = some m := by rw [bst_s, hq]; simp [okC, h11]
          refine P31_5b_3 hlt hb (by rw [e]; exact h7) (by rw [e]; exact h11) ?_
          have ih := ih (8 * p + i)
          rw [hs] at ih
          rw [e, nI_1]
          exact ih
      · have hs : bst (okC σ p x1 x2) (fun q r => ldC σ (8 * p + q) (8 * p + r)) (i + 1) = some m := by rw [bst_s, hq]; simp [okC, h7]
        refine P31_5b_4 hlt hb (by rw [e]; exact h7) ?_
        have ih := ih (8 * p + i)
        rw [hs] at ih
        rw [e, nI_1]
        exact ih

theorem S31 (hN : N ≤ 8) (hc : σ 4 p 5 = nI N) : Sp (d + 2) 31 [.inr (some (4, p)), .inl x1, .inl x2] σ (.inl (some (.inr (rf5 p (bst (okC σ p x1 x2) (fun q r => ldC σ (8 * p + q) (8 * p + r)) N))))) σ := by
  refine P31_1 ?_
  cases N with
  | zero => exact P31_5_5 (by rw [hc]; exact fun h => Int32.lt_irrefl h)
  | succ n =>
    obtain ⟨i, hi⟩ : ∃ i : Nat, i = 0 := ⟨0, rfl⟩
    have ih := L31 (d := d) (x1 := x1) (x2 := x2) hN hc n (i + 1) (by omega)
    suffices hsuf : Rn (d + 1) 31 5 [(0, .inr (some (4, p))), (1, .inl x1), (2, .inl x2), (3, .inr (rf5 p (bst (okC σ p x1 x2) (fun q r => ldC σ (8 * p + q) (8 * p + r)) i))), (4, .inl (nI i))] [] σ (.inl (some (.inr (rf5 p (bst (okC σ p x1 x2) (fun q r => ldC σ (8 * p + q) (8 * p + r)) (n + 1)))))) σ by
      subst hi; exact hsuf
    have e := nI_clamp (n := i) (by omega)
    have hlt : nI i < σ 4 p 5 := by rw [hc]; exact (nI_ltI (by omega) (by omega)).mpr (by omega)
    have hb : ¬ (nI i < 0 ∨ 8 ≤ (nI i).toNatClampNeg) := nI_in (by omega) (by decide)
    cases hq : bst (okC σ p x1 x2) (fun q r => ldC σ (8 * p + q) (8 * p + r)) i with
    | none =>
      by_cases h7 : σ 5 (8 * p + i) 7 = x1
      · by_cases h11 : σ 5 (8 * p + i) 11 = x2
        · have hs : bst (okC σ p x1 x2) (fun q r => ldC σ (8 * p + q) (8 * p + r)) (i + 1) = some i := by rw [bst_s, hq]; simp [okC, h7, h11]
          refine P31_5_2 hlt hb (by rw [e]; exact h7) (by rw [e]; exact h11) P48x_1 (by decide) ?_
          have ih := ih (8 * p + i)
          rw [hs] at ih
          rw [e, nI_1]
          exact ih
        · have hs : bst (okC σ p x1 x2) (fun q r => ldC σ (8 * p + q) (8 * p + r)) (i + 1) = none := by rw [bst_s, hq]; simp [okC, h11]
          refine P31_5_3 hlt hb (by rw [e]; exact h7) (by rw [e]; exact h11) ?_
          have ih := ih (8 * p + i)
          rw [hs] at ih
          rw [e, nI_1]
          exact ih
      · have hs : bst (okC σ p x1 x2) (fun q r => ldC σ (8 * p + q) (8 * p + r)) (i + 1) = none := by rw [bst_s, hq]; simp [okC, h7]
        refine P31_5_4 hlt hb (by rw [e]; exact h7) ?_
        have ih := ih (8 * p + i)
        rw [hs] at ih
        rw [e, nI_1]
        exact ih
    | some m => rw [show i = 0 by omega] at hq; cases hq

theorem L40 (hN : N ≤ 8) (hc : σ 4 p 5 = nI N) : ∀ m i, i + m = N → ∀ (r4 : Nat) (x5 : Int32), Rn d 40 4 [(0, .inr (some (4, p))), (1, .inl now), (2, .inr (rf5 p (bst (okS σ p now) (ldS σ p) i))), (3, .inl (nI i)), (4, .inr (some (5, r4))), (5, .inl x5)] [] σ (.inl (some (.inr (rf5 p (bst (okS σ p now) (ldS σ p) N))))) σ
  | 0, i, h, r4, x5 => by
    have e : i = N := by omega
    subst e
    have hx : ¬ nI i < σ 4 p 5 := by rw [hc]; exact fun h => Int32.lt_irrefl h
    cases hq : (bst (okS σ p now) (ldS σ p) i) with
    | none => exact P40_4a_4 hx
    | some m => exact P40_4b_5 hx
  | m + 1, i, h, r4, x5 => by
    have ih := L40 hN hc m (i + 1) (by omega)
    have e := nI_clamp (n := i) (by omega)
    have hlt : nI i < σ 4 p 5 := by rw [hc]; exact (nI_ltI (by omega) (by omega)).mpr (by omega)
    have hb : ¬ (nI i < 0 ∨ 8 ≤ (nI i).toNatClampNeg) := nI_in (by omega) (by decide)
    cases hq : (bst (okS σ p now) (ldS σ p) i) with
    | none =>
      by_cases h7 : σ 5 (8 * p + i) 7 = 2
      · by_cases h10 : now < σ 5 (8 * p + i) 10
        · have hs : (bst (okS σ p now) (ldS σ p) (i + 1)) = none := by rw [bst_s, hq]; simp [okS, h10]
          refine P40_4a_1 hlt hb (by rw [e]; exact h7) (by rw [e]; exact h10) ?_
          have ih := ih (8 * p + i) 0
          rw [hs] at ih
          rw [e, nI_1]
          exact ih
        · have hs : (bst (okS σ p now) (ldS σ p) (i + 1)) = some i := by rw [bst_s, hq]; simp [okS, h7, h10]
          refine P40_4a_2 hlt hb (by rw [e]; exact h7) (by rw [e]; exact h10) ?_
          have ih := ih (8 * p + i) 1
          rw [hs] at ih
          rw [e, nI_1]
          exact ih
      · have hs : (bst (okS σ p now) (ldS σ p) (i + 1)) = none := by rw [bst_s, hq]; simp [okS, h7]
        refine P40_4a_3 hlt hb (by rw [e]; exact h7) ?_
        have ih := ih (8 * p + i) 0
        rw [hs] at ih
        rw [e, nI_1]
        exact ih
    | some m =>
      by_cases h7 : σ 5 (8 * p + i) 7 = 2
      · by_cases h10 : now < σ 5 (8 * p + i) 10
        · have hs : (bst (okS σ p now) (ldS σ p) (i + 1)) = some m := by rw [bst_s, hq]; simp [okS, h10]
          refine P40_4b_1 hlt hb (by rw [e]; exact h7) (by rw [e]; exact h10) ?_
          have ih := ih (8 * p + i) 0
          rw [hs] at ih
          rw [e, nI_1]
          exact ih
        · by_cases hl : σ 5 (8 * p + i) 10 < σ 5 (8 * p + m) 10
          · have hs : (bst (okS σ p now) (ldS σ p) (i + 1)) = some i := by rw [bst_s, hq]; simp [okS, h7, h10, ldS, hl]
            refine P40_4b_2 hlt hb (by rw [e]; exact h7) (by rw [e]; exact h10) (by rw [e]; exact hl) ?_
            have ih := ih (8 * p + i) 1
            rw [hs] at ih
            rw [e, nI_1]
            exact ih
          · have hs : (bst (okS σ p now) (ldS σ p) (i + 1)) = some m := by rw [bst_s, hq]; simp [okS, h7, h10, ldS, hl]
            refine P40_4b_3 hlt hb (by rw [e]; exact h7) (by rw [e]; exact h10) (by rw [e]; exact hl) ?_
            have ih := ih (8 * p + i) 1
            rw [hs] at ih
            rw [e, nI_1]
            exact ih
      · have hs : (bst (okS σ p now) (ldS σ p) (i + 1)) = some m := by rw [bst_s, hq]; simp [okS, h7]
        refine P40_4b_4 hlt hb (by rw [e]; exact h7) ?_
        have ih := ih (8 * p + i) 0
        rw [hs] at ih
        rw [e, nI_1]
        exact ih

theorem S40 (hN : N ≤ 8) (hc : σ 4 p 5 = nI N) : Sp (d + 1) 40 [.inr (some (4, p)), .inl now] σ (.inl (some (.inr (rf5 p (bst (okS σ p now) (ldS σ p) N))))) σ := by
  refine P40_1 ?_
  cases N with
  | zero => exact P40_4_4 (by rw [hc]; exact fun h => Int32.lt_irrefl h)
  | succ n =>
    obtain ⟨i, hi⟩ : ∃ i : Nat, i = 0 := ⟨0, rfl⟩
    have ih := L40 (d := d) (now := now) hN hc n (i + 1) (by omega)
    suffices hsuf : Rn d 40 4 [(0, .inr (some (4, p))), (1, .inl now), (2, .inr (rf5 p (bst (okS σ p now) (ldS σ p) i))), (3, .inl (nI i))] [] σ (.inl (some (.inr (rf5 p (bst (okS σ p now) (ldS σ p) (n + 1)))))) σ by
      subst hi; exact hsuf
    have e := nI_clamp (n := i) (by omega)
    have hlt : nI i < σ 4 p 5 := by rw [hc]; exact (nI_ltI (by omega) (by omega)).mpr (by omega)
    have hb : ¬ (nI i < 0 ∨ 8 ≤ (nI i).toNatClampNeg) := nI_in (by omega) (by decide)
    cases hq : (bst (okS σ p now) (ldS σ p) i) with
    | none =>
      by_cases h7 : σ 5 (8 * p + i) 7 = 2
      · by_cases h10 : now < σ 5 (8 * p + i) 10
        · have hs : (bst (okS σ p now) (ldS σ p) (i + 1)) = none := by rw [bst_s, hq]; simp [okS, h10]
          refine P40_4_1 hlt hb (by rw [e]; exact h7) (by rw [e]; exact h10) ?_
          have ih := ih (8 * p + i) 0
          rw [hs] at ih
          rw [e, nI_1]
          exact ih
        · have hs : (bst (okS σ p now) (ldS σ p) (i + 1)) = some i := by rw [bst_s, hq]; simp [okS, h7, h10]
          refine P40_4_2 hlt hb (by rw [e]; exact h7) (by rw [e]; exact h10) ?_
          have ih := ih (8 * p + i) 1
          rw [hs] at ih
          rw [e, nI_1]
          exact ih
      · have hs : (bst (okS σ p now) (ldS σ p) (i + 1)) = none := by rw [bst_s, hq]; simp [okS, h7]
        refine P40_4_3 hlt hb (by rw [e]; exact h7) ?_
        have ih := ih (8 * p + i) 0
        rw [hs] at ih
        rw [e, nI_1]
        exact ih
    | some m => rw [show i = 0 by omega] at hq; cases hq

theorem L133a (hp : p < 4) (hN : N ≤ 8) (hc : μ 10 8 p = nI N) {r : mRz} {ω : mSg} (hx : ∀ xs, Rn d 133 4 [(0, .inr (some (7, 0))), (1, .inl (nI p)), (2, .inl (bI p (bst (okM μ p) (ldM μ p) N))), (3, .inl (nI N)), (4, .inl xs)] [] μ r ω) : ∀ m i, i + m = N → ∀ xs : Int32, Rn d 133 4 [(0, .inr (some (7, 0))), (1, .inl (nI p)), (2, .inl (bI p (bst (okM μ p) (ldM μ p) i))), (3, .inl (nI i)), (4, .inl xs)] [] μ r ω
  | 0, i, h, xs => by
    have e : i = N := by omega
    subst e
    exact hx xs
  | m + 1, i, h, xs => by
    have ih := L133a hp hN hc hx m (i + 1) (by omega)
    have e := nI_clamp (n := p) (by omega)
    have e8 := nI_clamp (n := 8 * p + i) (by omega)
    have hpb : ¬ (nI p < 0 ∨ 4 ≤ (nI p).toNatClampNeg) := nI_in hp (by decide)
    have hlt : nI i < μ 10 8 (nI p).toNatClampNeg := by rw [e, hc]; exact (nI_ltI (by omega) (by omega)).mpr (by omega)
    have hb : ¬ (8 * nI p + nI i < 0 ∨ 32 ≤ (8 * nI p + nI i).toNatClampNeg) := by rw [ix8]; exact nI_in (by omega) (by decide)
    have fin : ∀ o, (bst (okM μ p) (ldM μ p) (i + 1)) = o → Rn d 133 4 [(0, .inr (some (7, 0))), (1, .inl (nI p)), (2, .inl (bI p o)), (3, .inl (nI i + 1)), (4, .inl (8 * nI p + nI i))] [] μ r ω := fun o ho => by
      have h1 := ih (nI (8 * p + i))
      rw [ho] at h1
      rw [ix8, nI_1]
      exact h1
    by_cases g0 : μ 13 37 (8 * p + i) = 1
    · skip
      cases hq : (bst (okM μ p) (ldM μ p) i) with
      | none =>
        have hs := fin (some i) (by rw [bst_s, hq]; simp [okM, g0])
        exact P133_4a_1 hpb hlt hb (by rw [ix8, e8]; exact g0) rfl (by rw [ix8]; rw [ix8] at hs; exact hs)
      | some m =>
        obtain ⟨hm, -⟩ := bst_ok hq
        have em := nI_clamp (n := 8 * p + m) (by omega)
        have hne : ¬ bI p (some m) = -1 := nI_m1 (by omega)
        have hbm : ¬ (bI p (some m) < 0 ∨ 32 ≤ (bI p (some m)).toNatClampNeg) := nI_in (by omega) (by decide)
        by_cases hl : μ 13 33 (8 * p + m) < μ 13 33 (8 * p + i)
        · have hs := fin (some i) (by rw [bst_s, hq]; simp [okM, g0, ldM, hl])
          exact P133_4a_2 hpb hlt hb (by rw [ix8, e8]; exact g0) hne hbm (by rw [ix8, e8]; show _; rw [show (bI p (some m)).toNatClampNeg = 8 * p + m from em]; exact hl) (by rw [ix8]; rw [ix8] at hs; exact hs)
        · by_cases hl2 : μ 13 33 (8 * p + i) = μ 13 33 (8 * p + m)
          · by_cases hl3 : μ 13 41 (8 * p + i) < μ 13 41 (8 * p + m)
            · have hs := fin (some i) (by rw [bst_s, hq]; simp [okM, g0, ldM, hl, hl2, hl3])
              exact P133_4a_3 hpb hlt hb (by rw [ix8, e8]; exact g0) hne hbm (by rw [ix8, e8]; show _; rw [show (bI p (some m)).toNatClampNeg = 8 * p + m from em]; exact hl) (by rw [ix8, e8]; show _; rw [show (bI p (some m)).toNatClampNeg = 8 * p + m from em]; exact hl2) (by rw [ix8, e8]; show _; rw [show (bI p (some m)).toNatClampNeg = 8 * p + m from em]; exact hl3) (by rw [ix8]; rw [ix8] at hs; exact hs)
            · have hs := fin (some m) (by rw [bst_s, hq]; simp [okM, g0, ldM, hl, hl2, hl3])
              exact P133_4a_4 hpb hlt hb (by rw [ix8, e8]; exact g0) hne hbm (by rw [ix8, e8]; show _; rw [show (bI p (some m)).toNatClampNeg = 8 * p + m from em]; exact hl) (by rw [ix8, e8]; show _; rw [show (bI p (some m)).toNatClampNeg = 8 * p + m from em]; exact hl2) (by rw [ix8, e8]; show _; rw [show (bI p (some m)).toNatClampNeg = 8 * p + m from em]; exact hl3) hs
          · have hs := fin (some m) (by rw [bst_s, hq]; simp [okM, g0, ldM, hl, hl2])
            exact P133_4a_5 hpb hlt hb (by rw [ix8, e8]; exact g0) hne hbm (by rw [ix8, e8]; show _; rw [show (bI p (some m)).toNatClampNeg = 8 * p + m from em]; exact hl) (by rw [ix8, e8]; show _; rw [show (bI p (some m)).toNatClampNeg = 8 * p + m from em]; exact hl2) hs
    · skip
      have hs := fin (bst (okM μ p) (ldM μ p) i) (by rw [bst_s]; cases hq : (bst (okM μ p) (ldM μ p) i) with
        | none => simp [okM, g0]
        | some m => simp [okM, g0])
      exact P133_4a_6 hpb hlt hb (by rw [ix8, e8]; exact g0) hs

theorem L133 (hp : p < 4) (hN : N ≤ 8) (hc : μ 10 8 p = nI N) {r : mRz} {ω : mSg} (hx0 : N = 0 → Rn d 133 4 [(0, .inr (some (7, 0))), (1, .inl (nI p)), (2, .inl (-1)), (3, .inl 0)] [] μ r ω) (hx : ∀ xs, Rn d 133 4 [(0, .inr (some (7, 0))), (1, .inl (nI p)), (2, .inl (bI p (bst (okM μ p) (ldM μ p) N))), (3, .inl (nI N)), (4, .inl xs)] [] μ r ω) : Rn d 133 4 [(0, .inr (some (7, 0))), (1, .inl (nI p)), (2, .inl (-1)), (3, .inl 0)] [] μ r ω := by
  by_cases hN0 : N = 0
  · exact hx0 hN0
  · obtain ⟨i, hi⟩ : ∃ i : Nat, i = 0 := ⟨0, rfl⟩
    have ih := L133a (d := d) hp hN hc hx (N - 1) (i + 1) (by omega)
    suffices hsuf : Rn d 133 4 [(0, .inr (some (7, 0))), (1, .inl (nI p)), (2, .inl (bI p (bst (okM μ p) (ldM μ p) i))), (3, .inl (nI i))] [] μ r ω by
      subst hi; exact hsuf
    have h : i + 1 ≤ N := by omega
    have e := nI_clamp (n := p) (by omega)
    have e8 := nI_clamp (n := 8 * p + i) (by omega)
    have hpb : ¬ (nI p < 0 ∨ 4 ≤ (nI p).toNatClampNeg) := nI_in hp (by decide)
    have hlt : nI i < μ 10 8 (nI p).toNatClampNeg := by rw [e, hc]; exact (nI_ltI (by omega) (by omega)).mpr (by omega)
    have hb : ¬ (8 * nI p + nI i < 0 ∨ 32 ≤ (8 * nI p + nI i).toNatClampNeg) := by rw [ix8]; exact nI_in (by omega) (by decide)
    have fin : ∀ o, (bst (okM μ p) (ldM μ p) (i + 1)) = o → Rn d 133 4 [(0, .inr (some (7, 0))), (1, .inl (nI p)), (2, .inl (bI p o)), (3, .inl (nI i + 1)), (4, .inl (8 * nI p + nI i))] [] μ r ω := fun o ho => by
      have h1 := ih (nI (8 * p + i))
      rw [ho] at h1
      rw [ix8, nI_1]
      exact h1
    by_cases g0 : μ 13 37 (8 * p + i) = 1
    · skip
      cases hq : (bst (okM μ p) (ldM μ p) i) with
      | none =>
        have hs := fin (some i) (by rw [bst_s, hq]; simp [okM, g0])
        exact P133_4_1 hpb hlt hb (by rw [ix8, e8]; exact g0) rfl (by rw [ix8]; rw [ix8] at hs; exact hs)
      | some m =>
        obtain ⟨hm, -⟩ := bst_ok hq
        have em := nI_clamp (n := 8 * p + m) (by omega)
        have hne : ¬ bI p (some m) = -1 := nI_m1 (by omega)
        have hbm : ¬ (bI p (some m) < 0 ∨ 32 ≤ (bI p (some m)).toNatClampNeg) := nI_in (by omega) (by decide)
        by_cases hl : μ 13 33 (8 * p + m) < μ 13 33 (8 * p + i)
        · have hs := fin (some i) (by rw [bst_s, hq]; simp [okM, g0, ldM, hl])
          exact P133_4_2 hpb hlt hb (by rw [ix8, e8]; exact g0) hne hbm (by rw [ix8, e8]; show _; rw [show (bI p (some m)).toNatClampNeg = 8 * p + m from em]; exact hl) (by rw [ix8]; rw [ix8] at hs; exact hs)
        · by_cases hl2 : μ 13 33 (8 * p + i) = μ 13 33 (8 * p + m)
          · by_cases hl3 : μ 13 41 (8 * p + i) < μ 13 41 (8 * p + m)
            · have hs := fin (some i) (by rw [bst_s, hq]; simp [okM, g0, ldM, hl, hl2, hl3])
              exact P133_4_3 hpb hlt hb (by rw [ix8, e8]; exact g0) hne hbm (by rw [ix8, e8]; show _; rw [show (bI p (some m)).toNatClampNeg = 8 * p + m from em]; exact hl) (by rw [ix8, e8]; show _; rw [show (bI p (some m)).toNatClampNeg = 8 * p + m from em]; exact hl2) (by rw [ix8, e8]; show _; rw [show (bI p (some m)).toNatClampNeg = 8 * p + m from em]; exact hl3) (by rw [ix8]; rw [ix8] at hs; exact hs)
            · have hs := fin (some m) (by rw [bst_s, hq]; simp [okM, g0, ldM, hl, hl2, hl3])
              exact P133_4_4 hpb hlt hb (by rw [ix8, e8]; exact g0) hne hbm (by rw [ix8, e8]; show _; rw [show (bI p (some m)).toNatClampNeg = 8 * p + m from em]; exact hl) (by rw [ix8, e8]; show _; rw [show (bI p (some m)).toNatClampNeg = 8 * p + m from em]; exact hl2) (by rw [ix8, e8]; show _; rw [show (bI p (some m)).toNatClampNeg = 8 * p + m from em]; exact hl3) hs
          · have hs := fin (some m) (by rw [bst_s, hq]; simp [okM, g0, ldM, hl, hl2])
            exact P133_4_5 hpb hlt hb (by rw [ix8, e8]; exact g0) hne hbm (by rw [ix8, e8]; show _; rw [show (bI p (some m)).toNatClampNeg = 8 * p + m from em]; exact hl) (by rw [ix8, e8]; show _; rw [show (bI p (some m)).toNatClampNeg = 8 * p + m from em]; exact hl2) hs
    · skip
      have hs := fin (bst (okM μ p) (ldM μ p) i) (by rw [bst_s]; cases hq : (bst (okM μ p) (ldM μ p) i) with
        | none => simp [okM, g0]
        | some m => simp [okM, g0])
      exact P133_4_6 hpb hlt hb (by rw [ix8, e8]; exact g0) hs

theorem L126a {a : Int32} (hp : p < 4) (hN : N ≤ 8) (hc : μ 10 8 p = nI N) {r : mRz} {ω : mSg} (hx : ∀ xs, Rn d 126 15 [(0, .inr (some (7, 0))), (1, .inl (nI p)), (2, .inl a), (3, .inl (bI p (bst (okB μ p a) (ldM μ p) N))), (4, .inl (nI N)), (5, .inl xs)] [] μ r ω) : ∀ m i, i + m = N → ∀ xs : Int32, Rn d 126 15 [(0, .inr (some (7, 0))), (1, .inl (nI p)), (2, .inl a), (3, .inl (bI p (bst (okB μ p a) (ldM μ p) i))), (4, .inl (nI i)), (5, .inl xs)] [] μ r ω
  | 0, i, h, xs => by
    have e : i = N := by omega
    subst e
    exact hx xs
  | m + 1, i, h, xs => by
    have ih := L126a hp hN hc hx m (i + 1) (by omega)
    have e := nI_clamp (n := p) (by omega)
    have e8 := nI_clamp (n := 8 * p + i) (by omega)
    have hpb : ¬ (nI p < 0 ∨ 4 ≤ (nI p).toNatClampNeg) := nI_in hp (by decide)
    have hlt : nI i < μ 10 8 (nI p).toNatClampNeg := by rw [e, hc]; exact (nI_ltI (by omega) (by omega)).mpr (by omega)
    have hb : ¬ (8 * nI p + nI i < 0 ∨ 32 ≤ (8 * nI p + nI i).toNatClampNeg) := by rw [ix8]; exact nI_in (by omega) (by decide)
    have fin : ∀ o, (bst (okB μ p a) (ldM μ p) (i + 1)) = o → Rn d 126 15 [(0, .inr (some (7, 0))), (1, .inl (nI p)), (2, .inl a), (3, .inl (bI p o)), (4, .inl (nI i + 1)), (5, .inl (8 * nI p + nI i))] [] μ r ω := fun o ho => by
      have h1 := ih (nI (8 * p + i))
      rw [ho] at h1
      rw [ix8, nI_1]
      exact h1
    by_cases g0 : μ 13 37 (8 * p + i) = 3
    · skip
      by_cases g1 : μ 13 40 (8 * p + i) = a
      · skip
        cases hq : (bst (okB μ p a) (ldM μ p) i) with
        | none =>
          have hs := fin (some i) (by rw [bst_s, hq]; simp [okB, g0, g1])
          exact P126_15a_1 hpb hlt hb (by rw [ix8, e8]; exact g0) (by rw [ix8, e8]; exact g1) rfl (by rw [ix8]; rw [ix8] at hs; exact hs)
        | some m =>
          obtain ⟨hm, -⟩ := bst_ok hq
          have em := nI_clamp (n := 8 * p + m) (by omega)
          have hne : ¬ bI p (some m) = -1 := nI_m1 (by omega)
          have hbm : ¬ (bI p (some m) < 0 ∨ 32 ≤ (bI p (some m)).toNatClampNeg) := nI_in (by omega) (by decide)
          by_cases hl : μ 13 33 (8 * p + m) < μ 13 33 (8 * p + i)
          · have hs := fin (some i) (by rw [bst_s, hq]; simp [okB, g0, g1, ldM, hl])
            exact P126_15a_2 hpb hlt hb (by rw [ix8, e8]; exact g0) (by rw [ix8, e8]; exact g1) hne hbm (by rw [ix8, e8]; show _; rw [show (bI p (some m)).toNatClampNeg = 8 * p + m from em]; exact hl) (by rw [ix8]; rw [ix8] at hs; exact hs)
          · by_cases hl2 : μ 13 33 (8 * p + i) = μ 13 33 (8 * p + m)
            · by_cases hl3 : μ 13 41 (8 * p + i) < μ 13 41 (8 * p + m)
              · have hs := fin (some i) (by rw [bst_s, hq]; simp [okB, g0, g1, ldM, hl, hl2, hl3])
                exact P126_15a_3 hpb hlt hb (by rw [ix8, e8]; exact g0) (by rw [ix8, e8]; exact g1) hne hbm (by rw [ix8, e8]; show _; rw [show (bI p (some m)).toNatClampNeg = 8 * p + m from em]; exact hl) (by rw [ix8, e8]; show _; rw [show (bI p (some m)).toNatClampNeg = 8 * p + m from em]; exact hl2) (by rw [ix8, e8]; show _; rw [show (bI p (some m)).toNatClampNeg = 8 * p + m from em]; exact hl3) (by rw [ix8]; rw [ix8] at hs; exact hs)
              · have hs := fin (some m) (by rw [bst_s, hq]; simp [okB, g0, g1, ldM, hl, hl2, hl3])
                exact P126_15a_4 hpb hlt hb (by rw [ix8, e8]; exact g0) (by rw [ix8, e8]; exact g1) hne hbm (by rw [ix8, e8]; show _; rw [show (bI p (some m)).toNatClampNeg = 8 * p + m from em]; exact hl) (by rw [ix8, e8]; show _; rw [show (bI p (some m)).toNatClampNeg = 8 * p + m from em]; exact hl2) (by rw [ix8, e8]; show _; rw [show (bI p (some m)).toNatClampNeg = 8 * p + m from em]; exact hl3) hs
            · have hs := fin (some m) (by rw [bst_s, hq]; simp [okB, g0, g1, ldM, hl, hl2])
              exact P126_15a_5 hpb hlt hb (by rw [ix8, e8]; exact g0) (by rw [ix8, e8]; exact g1) hne hbm (by rw [ix8, e8]; show _; rw [show (bI p (some m)).toNatClampNeg = 8 * p + m from em]; exact hl) (by rw [ix8, e8]; show _; rw [show (bI p (some m)).toNatClampNeg = 8 * p + m from em]; exact hl2) hs
      · skip
        have hs := fin (bst (okB μ p a) (ldM μ p) i) (by rw [bst_s]; cases hq : (bst (okB μ p a) (ldM μ p) i) with
          | none => simp [okB, g1]
          | some m => simp [okB, g1])
        exact P126_15a_6 hpb hlt hb (by rw [ix8, e8]; exact g0) (by rw [ix8, e8]; exact g1) hs
    · skip
      have hs := fin (bst (okB μ p a) (ldM μ p) i) (by rw [bst_s]; cases hq : (bst (okB μ p a) (ldM μ p) i) with
        | none => simp [okB, g0]
        | some m => simp [okB, g0])
      exact P126_15a_7 hpb hlt hb (by rw [ix8, e8]; exact g0) hs

theorem L126 {a : Int32} (hp : p < 4) (hN : N ≤ 8) (hc : μ 10 8 p = nI N) {r : mRz} {ω : mSg} (hx0 : N = 0 → Rn d 126 15 [(0, .inr (some (7, 0))), (1, .inl (nI p)), (2, .inl a), (3, .inl (-1)), (4, .inl 0)] [] μ r ω) (hx : ∀ xs, Rn d 126 15 [(0, .inr (some (7, 0))), (1, .inl (nI p)), (2, .inl a), (3, .inl (bI p (bst (okB μ p a) (ldM μ p) N))), (4, .inl (nI N)), (5, .inl xs)] [] μ r ω) : Rn d 126 15 [(0, .inr (some (7, 0))), (1, .inl (nI p)), (2, .inl a), (3, .inl (-1)), (4, .inl 0)] [] μ r ω := by
  by_cases hN0 : N = 0
  · exact hx0 hN0
  · obtain ⟨i, hi⟩ : ∃ i : Nat, i = 0 := ⟨0, rfl⟩
    have ih := L126a (d := d) hp hN hc hx (N - 1) (i + 1) (by omega)
    suffices hsuf : Rn d 126 15 [(0, .inr (some (7, 0))), (1, .inl (nI p)), (2, .inl a), (3, .inl (bI p (bst (okB μ p a) (ldM μ p) i))), (4, .inl (nI i))] [] μ r ω by
      subst hi; exact hsuf
    have h : i + 1 ≤ N := by omega
    have e := nI_clamp (n := p) (by omega)
    have e8 := nI_clamp (n := 8 * p + i) (by omega)
    have hpb : ¬ (nI p < 0 ∨ 4 ≤ (nI p).toNatClampNeg) := nI_in hp (by decide)
    have hlt : nI i < μ 10 8 (nI p).toNatClampNeg := by rw [e, hc]; exact (nI_ltI (by omega) (by omega)).mpr (by omega)
    have hb : ¬ (8 * nI p + nI i < 0 ∨ 32 ≤ (8 * nI p + nI i).toNatClampNeg) := by rw [ix8]; exact nI_in (by omega) (by decide)
    have fin : ∀ o, (bst (okB μ p a) (ldM μ p) (i + 1)) = o → Rn d 126 15 [(0, .inr (some (7, 0))), (1, .inl (nI p)), (2, .inl a), (3, .inl (bI p o)), (4, .inl (nI i + 1)), (5, .inl (8 * nI p + nI i))] [] μ r ω := fun o ho => by
      have h1 := ih (nI (8 * p + i))
      rw [ho] at h1
      rw [ix8, nI_1]
      exact h1
    by_cases g0 : μ 13 37 (8 * p + i) = 3
    · skip
      by_cases g1 : μ 13 40 (8 * p + i) = a
      · skip
        cases hq : (bst (okB μ p a) (ldM μ p) i) with
        | none =>
          have hs := fin (some i) (by rw [bst_s, hq]; simp [okB, g0, g1])
          exact P126_15_1 hpb hlt hb (by rw [ix8, e8]; exact g0) (by rw [ix8, e8]; exact g1) rfl (by rw [ix8]; rw [ix8] at hs; exact hs)
        | some m =>
          obtain ⟨hm, -⟩ := bst_ok hq
          have em := nI_clamp (n := 8 * p + m) (by omega)
          have hne : ¬ bI p (some m) = -1 := nI_m1 (by omega)
          have hbm : ¬ (bI p (some m) < 0 ∨ 32 ≤ (bI p (some m)).toNatClampNeg) := nI_in (by omega) (by decide)
          by_cases hl : μ 13 33 (8 * p + m) < μ 13 33 (8 * p + i)
          · have hs := fin (some i) (by rw [bst_s, hq]; simp [okB, g0, g1, ldM, hl])
            exact P126_15_2 hpb hlt hb (by rw [ix8, e8]; exact g0) (by rw [ix8, e8]; exact g1) hne hbm (by rw [ix8, e8]; show _; rw [show (bI p (some m)).toNatClampNeg = 8 * p + m from em]; exact hl) (by rw [ix8]; rw [ix8] at hs; exact hs)
          · by_cases hl2 : μ 13 33 (8 * p + i) = μ 13 33 (8 * p + m)
            · by_cases hl3 : μ 13 41 (8 * p + i) < μ 13 41 (8 * p + m)
              · have hs := fin (some i) (by rw [bst_s, hq]; simp [okB, g0, g1, ldM, hl, hl2, hl3])
                exact P126_15_3 hpb hlt hb (by rw [ix8, e8]; exact g0) (by rw [ix8, e8]; exact g1) hne hbm (by rw [ix8, e8]; show _; rw [show (bI p (some m)).toNatClampNeg = 8 * p + m from em]; exact hl) (by rw [ix8, e8]; show _; rw [show (bI p (some m)).toNatClampNeg = 8 * p + m from em]; exact hl2) (by rw [ix8, e8]; show _; rw [show (bI p (some m)).toNatClampNeg = 8 * p + m from em]; exact hl3) (by rw [ix8]; rw [ix8] at hs; exact hs)
              · have hs := fin (some m) (by rw [bst_s, hq]; simp [okB, g0, g1, ldM, hl, hl2, hl3])
                exact P126_15_4 hpb hlt hb (by rw [ix8, e8]; exact g0) (by rw [ix8, e8]; exact g1) hne hbm (by rw [ix8, e8]; show _; rw [show (bI p (some m)).toNatClampNeg = 8 * p + m from em]; exact hl) (by rw [ix8, e8]; show _; rw [show (bI p (some m)).toNatClampNeg = 8 * p + m from em]; exact hl2) (by rw [ix8, e8]; show _; rw [show (bI p (some m)).toNatClampNeg = 8 * p + m from em]; exact hl3) hs
            · have hs := fin (some m) (by rw [bst_s, hq]; simp [okB, g0, g1, ldM, hl, hl2])
              exact P126_15_5 hpb hlt hb (by rw [ix8, e8]; exact g0) (by rw [ix8, e8]; exact g1) hne hbm (by rw [ix8, e8]; show _; rw [show (bI p (some m)).toNatClampNeg = 8 * p + m from em]; exact hl) (by rw [ix8, e8]; show _; rw [show (bI p (some m)).toNatClampNeg = 8 * p + m from em]; exact hl2) hs
      · skip
        have hs := fin (bst (okB μ p a) (ldM μ p) i) (by rw [bst_s]; cases hq : (bst (okB μ p a) (ldM μ p) i) with
          | none => simp [okB, g1]
          | some m => simp [okB, g1])
        exact P126_15_6 hpb hlt hb (by rw [ix8, e8]; exact g0) (by rw [ix8, e8]; exact g1) hs
    · skip
      have hs := fin (bst (okB μ p a) (ldM μ p) i) (by rw [bst_s]; cases hq : (bst (okB μ p a) (ldM μ p) i) with
        | none => simp [okB, g0]
        | some m => simp [okB, g0])
      exact P126_15_7 hpb hlt hb (by rw [ix8, e8]; exact g0) hs

theorem L131a (hp : p < 4) (hN : N ≤ 8) (hc : μ 10 8 p = nI N) {r : mRz} {ω : mSg} (hx : ∀ xs, Rn d 131 11 [(0, .inr (some (7, 0))), (1, .inl (nI p)), (2, .inl x2), (3, .inl (bI p (bst (okW μ p) (ldW μ p) N))), (4, .inl (nI N)), (5, .inl xs)] [] μ r ω) : ∀ m i, i + m = N → ∀ xs : Int32, Rn d 131 11 [(0, .inr (some (7, 0))), (1, .inl (nI p)), (2, .inl x2), (3, .inl (bI p (bst (okW μ p) (ldW μ p) i))), (4, .inl (nI i)), (5, .inl xs)] [] μ r ω
  | 0, i, h, xs => by
    have e : i = N := by omega
    subst e
    exact hx xs
  | m + 1, i, h, xs => by
    have ih := L131a hp hN hc hx m (i + 1) (by omega)
    have e := nI_clamp (n := p) (by omega)
    have e8 := nI_clamp (n := 8 * p + i) (by omega)
    have hpb : ¬ (nI p < 0 ∨ 4 ≤ (nI p).toNatClampNeg) := nI_in hp (by decide)
    have hlt : nI i < μ 10 8 (nI p).toNatClampNeg := by rw [e, hc]; exact (nI_ltI (by omega) (by omega)).mpr (by omega)
    have hb : ¬ (8 * nI p + nI i < 0 ∨ 32 ≤ (8 * nI p + nI i).toNatClampNeg) := by rw [ix8]; exact nI_in (by omega) (by decide)
    have fin : ∀ o, (bst (okW μ p) (ldW μ p) (i + 1)) = o → Rn d 131 11 [(0, .inr (some (7, 0))), (1, .inl (nI p)), (2, .inl x2), (3, .inl (bI p o)), (4, .inl (nI i + 1)), (5, .inl (8 * nI p + nI i))] [] μ r ω := fun o ho => by
      have h1 := ih (nI (8 * p + i))
      rw [ho] at h1
      rw [ix8, nI_1]
      exact h1
    by_cases g0 : μ 13 37 (8 * p + i) = 2
    · skip
      by_cases g1 : μ 7 0 2 < μ 13 39 (8 * p + i)
      · skip
        have hs := fin (bst (okW μ p) (ldW μ p) i) (by rw [bst_s]; cases hq : (bst (okW μ p) (ldW μ p) i) with
          | none => simp [okW, g1]
          | some m => simp [okW, g1])
        exact P131_11a_1 hpb hlt hb (by rw [ix8, e8]; exact g0) (by rw [ix8, e8]; exact g1) hs
      · skip
        cases hq : (bst (okW μ p) (ldW μ p) i) with
        | none =>
          have hs := fin (some i) (by rw [bst_s, hq]; simp [okW, g0, g1])
          exact P131_11a_2 hpb hlt hb (by rw [ix8, e8]; exact g0) (by rw [ix8, e8]; exact g1) rfl (by rw [ix8]; rw [ix8] at hs; exact hs)
        | some m =>
          obtain ⟨hm, -⟩ := bst_ok hq
          have em := nI_clamp (n := 8 * p + m) (by omega)
          have hne : ¬ bI p (some m) = -1 := nI_m1 (by omega)
          have hbm : ¬ (bI p (some m) < 0 ∨ 32 ≤ (bI p (some m)).toNatClampNeg) := nI_in (by omega) (by decide)
          by_cases hl : μ 13 39 (8 * p + i) < μ 13 39 (8 * p + m)
          · have hs := fin (some i) (by rw [bst_s, hq]; simp [okW, g0, g1, ldW, hl])
            exact P131_11a_3 hpb hlt hb (by rw [ix8, e8]; exact g0) (by rw [ix8, e8]; exact g1) hne hbm (by rw [ix8, e8]; show _; rw [show (bI p (some m)).toNatClampNeg = 8 * p + m from em]; exact hl) (by rw [ix8]; rw [ix8] at hs; exact hs)
          · have hs := fin (some m) (by rw [bst_s, hq]; simp [okW, g0, g1, ldW, hl])
            exact P131_11a_4 hpb hlt hb (by rw [ix8, e8]; exact g0) (by rw [ix8, e8]; exact g1) hne hbm (by rw [ix8, e8]; show _; rw [show (bI p (some m)).toNatClampNeg = 8 * p + m from em]; exact hl) hs
    · skip
      have hs := fin (bst (okW μ p) (ldW μ p) i) (by rw [bst_s]; cases hq : (bst (okW μ p) (ldW μ p) i) with
        | none => simp [okW, g0]
        | some m => simp [okW, g0])
      exact P131_11a_5 hpb hlt hb (by rw [ix8, e8]; exact g0) hs

theorem L131 (hp : p < 4) (hN : N ≤ 8) (hc : μ 10 8 p = nI N) {r : mRz} {ω : mSg} (hx0 : N = 0 → Rn d 131 11 [(0, .inr (some (7, 0))), (1, .inl (nI p)), (2, .inl x2), (3, .inl (-1)), (4, .inl 0)] [] μ r ω) (hx : ∀ xs, Rn d 131 11 [(0, .inr (some (7, 0))), (1, .inl (nI p)), (2, .inl x2), (3, .inl (bI p (bst (okW μ p) (ldW μ p) N))), (4, .inl (nI N)), (5, .inl xs)] [] μ r ω) : Rn d 131 11 [(0, .inr (some (7, 0))), (1, .inl (nI p)), (2, .inl x2), (3, .inl (-1)), (4, .inl 0)] [] μ r ω := by
  by_cases hN0 : N = 0
  · exact hx0 hN0
  · obtain ⟨i, hi⟩ : ∃ i : Nat, i = 0 := ⟨0, rfl⟩
    have ih := L131a (d := d) hp hN hc hx (N - 1) (i + 1) (by omega)
    suffices hsuf : Rn d 131 11 [(0, .inr (some (7, 0))), (1, .inl (nI p)), (2, .inl x2), (3, .inl (bI p (bst (okW μ p) (ldW μ p) i))), (4, .inl (nI i))] [] μ r ω by
      subst hi; exact hsuf
    have h : i + 1 ≤ N := by omega
    have e := nI_clamp (n := p) (by omega)
    have e8 := nI_clamp (n := 8 * p + i) (by omega)
    have hpb : ¬ (nI p < 0 ∨ 4 ≤ (nI p).toNatClampNeg) := nI_in hp (by decide)
    have hlt : nI i < μ 10 8 (nI p).toNatClampNeg := by rw [e, hc]; exact (nI_ltI (by omega) (by omega)).mpr (by omega)
    have hb : ¬ (8 * nI p + nI i < 0 ∨ 32 ≤ (8 * nI p + nI i).toNatClampNeg) := by rw [ix8]; exact nI_in (by omega) (by decide)
    have fin : ∀ o, (bst (okW μ p) (ldW μ p) (i + 1)) = o → Rn d 131 11 [(0, .inr (some (7, 0))), (1, .inl (nI p)), (2, .inl x2), (3, .inl (bI p o)), (4, .inl (nI i + 1)), (5, .inl (8 * nI p + nI i))] [] μ r ω := fun o ho => by
      have h1 := ih (nI (8 * p + i))
      rw [ho] at h1
      rw [ix8, nI_1]
      exact h1
    by_cases g0 : μ 13 37 (8 * p + i) = 2
    · skip
      by_cases g1 : μ 7 0 2 < μ 13 39 (8 * p + i)
      · skip
        have hs := fin (bst (okW μ p) (ldW μ p) i) (by rw [bst_s]; cases hq : (bst (okW μ p) (ldW μ p) i) with
          | none => simp [okW, g1]
          | some m => simp [okW, g1])
        exact P131_11_1 hpb hlt hb (by rw [ix8, e8]; exact g0) (by rw [ix8, e8]; exact g1) hs
      · skip
        cases hq : (bst (okW μ p) (ldW μ p) i) with
        | none =>
          have hs := fin (some i) (by rw [bst_s, hq]; simp [okW, g0, g1])
          exact P131_11_2 hpb hlt hb (by rw [ix8, e8]; exact g0) (by rw [ix8, e8]; exact g1) rfl (by rw [ix8]; rw [ix8] at hs; exact hs)
        | some m =>
          obtain ⟨hm, -⟩ := bst_ok hq
          have em := nI_clamp (n := 8 * p + m) (by omega)
          have hne : ¬ bI p (some m) = -1 := nI_m1 (by omega)
          have hbm : ¬ (bI p (some m) < 0 ∨ 32 ≤ (bI p (some m)).toNatClampNeg) := nI_in (by omega) (by decide)
          by_cases hl : μ 13 39 (8 * p + i) < μ 13 39 (8 * p + m)
          · have hs := fin (some i) (by rw [bst_s, hq]; simp [okW, g0, g1, ldW, hl])
            exact P131_11_3 hpb hlt hb (by rw [ix8, e8]; exact g0) (by rw [ix8, e8]; exact g1) hne hbm (by rw [ix8, e8]; show _; rw [show (bI p (some m)).toNatClampNeg = 8 * p + m from em]; exact hl) (by rw [ix8]; rw [ix8] at hs; exact hs)
          · have hs := fin (some m) (by rw [bst_s, hq]; simp [okW, g0, g1, ldW, hl])
            exact P131_11_4 hpb hlt hb (by rw [ix8, e8]; exact g0) (by rw [ix8, e8]; exact g1) hne hbm (by rw [ix8, e8]; show _; rw [show (bI p (some m)).toNatClampNeg = 8 * p + m from em]; exact hl) hs
    · skip
      have hs := fin (bst (okW μ p) (ldW μ p) i) (by rw [bst_s]; cases hq : (bst (okW μ p) (ldW μ p) i) with
        | none => simp [okW, g0]
        | some m => simp [okW, g0])
      exact P131_11_5 hpb hlt hb (by rw [ix8, e8]; exact g0) hs

end SEARCH
