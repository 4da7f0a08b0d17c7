/-! What holds of the processes, all the while. -/
def PI (σ : mSg) (K : Nat) : Prop := (σ 5 K 7 = 0 → σ 5 K 8 = -1) ∧ (¬ 0 < σ 5 K 5 → σ 5 K 8 = -1) ∧ (¬ σ 5 K 7 = 3 → σ 5 K 11 = -1) ∧ (σ 5 K 7 = 1 → σ 5 K 10 = -1)
def OGs (b : Nat) (σ μ : mSg) : Prop := OG b (fun k => σ 5 k 7) (fun k => σ 5 k 12) (fun p => σ 4 p 6) (fun k => μ 13 41 k) (μ 7 0 27)
/-- a class's memory but for processes: fields that begin sets, memories, channels, errors, windows -/
def PF (σ σ' : mSg) : Prop := ∀ k i j, k ≠ 13 → ¬ (k = 4 ∧ j = 6) → ¬ (k = 5 ∧ 6 ≤ j) → σ' k i j = σ k i j
def MF (μ μ' : mSg) : Prop := ∀ k i j, k ≠ 16 → ¬ (k = 13 ∧ 36 ≤ i) → ¬ (k = 7 ∧ j = 27) → μ' k i j = μ k i j
section INVP
variable {p q K K' b j : Nat} {σ μ σ0 μ0 σ1 σ2 : mSg} {st w s now : Int32}
theorem PF.rf : PF σ σ := fun _ _ _ _ _ _ => rfl
theorem MF.rf : MF μ μ := fun _ _ _ _ _ _ => rfl
theorem PF.tr (h1 : PF σ σ1) (h2 : PF σ1 σ2) : PF σ σ2 := fun k i j a b c => (h2 k i j a b c).trans (h1 k i j a b c)
theorem MF.tr {μ1 μ2 : mSg} (h1 : MF μ μ1) (h2 : MF μ1 μ2) : MF μ μ2 := fun k i j a b c => (h2 k i j a b c).trans (h1 k i j a b c)
theorem PF.up {v : Int32} {k i : Nat} (h : k = 13 ∨ (k = 4 ∧ j = 6) ∨ (k = 5 ∧ 6 ≤ j)) : PF σ (mq_up σ k i j v) := fun a b c h1 h2 h3 => by
  rw [up_if, if_neg]
  rintro ⟨rfl, rfl, rfl⟩
  rcases h with h | h | h
  · exact h1 h
  · exact h2 h
  · exact h3 h
theorem MF.up {v : Int32} {k i : Nat} (h : k = 16 ∨ (k = 13 ∧ 36 ≤ i) ∨ (k = 7 ∧ j = 27)) : MF μ (mq_up μ k i j v) := fun a b c h1 h2 h3 => by
  rw [up_if, if_neg]
  rintro ⟨rfl, rfl, rfl⟩
  rcases h with h | h | h
  · exact h1 h
  · exact h2 h
  · exact h3 h
theorem PF.zr {i a n : Nat} : PF σ (mq_zr σ 13 i a n) := fun k i' j' h1 h2 h3 => by
  unfold mq_zr
  rw [if_neg]
  rintro ⟨rfl, -⟩
  exact h1 rfl
theorem MF.zr {i a n : Nat} : MF μ (mq_zr μ 16 i a n) := fun k i' j' h1 h2 h3 => by
  unfold mq_zr
  rw [if_neg]
  rintro ⟨rfl, -⟩
  exact h1 rfl
theorem pf_enter : PF σ (cEnter σ p K st w s) :=
  ((((PF.up (Or.inr (Or.inr ⟨rfl, by decide⟩))).tr (PF.up (Or.inr (Or.inr ⟨rfl, by decide⟩)))).tr (PF.up (Or.inr (Or.inr ⟨rfl, by decide⟩)))).tr (PF.up (Or.inr (Or.inr ⟨rfl, by decide⟩)))).tr (PF.up (Or.inr (Or.inl ⟨rfl, rfl⟩)))
theorem pf_start : PF σ (cStart σ p K now) := ((((PF.zr).tr (PF.up (Or.inr (Or.inr ⟨rfl, by decide⟩)))).tr (PF.up (Or.inr (Or.inr ⟨rfl, by decide⟩)))).tr (PF.up (Or.inr (Or.inr ⟨rfl, by decide⟩)))).tr pf_enter
theorem pf_rest : PF σ (cRest σ p K) := (PF.up (Or.inr (Or.inr ⟨rfl, by decide⟩))).tr pf_enter
theorem mf_ready : MF μ (mReady μ K) :=
  ((((MF.up (Or.inr (Or.inl ⟨rfl, by decide⟩))).tr (MF.up (Or.inr (Or.inl ⟨rfl, by decide⟩)))).tr (MF.up (Or.inr (Or.inl ⟨rfl, by decide⟩)))).tr (MF.up (Or.inr (Or.inl ⟨rfl, by decide⟩)))).tr (MF.up (Or.inr (Or.inr ⟨rfl, rfl⟩)))
theorem mf_start : MF μ (mStart μ K) := ((((MF.zr).tr (MF.up (Or.inr (Or.inl ⟨rfl, by decide⟩)))).tr (MF.up (Or.inr (Or.inl ⟨rfl, by decide⟩)))).tr (MF.up (Or.inr (Or.inl ⟨rfl, by decide⟩)))).tr mf_ready
theorem mf_sleep : MF μ (mSleep μ K) :=
  (((MF.up (Or.inr (Or.inl ⟨rfl, by decide⟩))).tr (MF.up (Or.inr (Or.inl ⟨rfl, by decide⟩)))).tr (MF.up (Or.inr (Or.inl ⟨rfl, by decide⟩)))).tr (MF.up (Or.inr (Or.inl ⟨rfl, by decide⟩)))
theorem ce_ne (h : K' ≠ K) : cEnter σ p K st w s 5 K' j = σ 5 K' j := by simp [cEnter, mq_up, h]
theorem ce_7 : cEnter σ p K st w s 5 K 7 = st := by simp [cEnter, mq_up]
theorem ce_10 : cEnter σ p K st w s 5 K 10 = w := by simp [cEnter, mq_up]
theorem ce_11 : cEnter σ p K st w s 5 K 11 = s := by simp [cEnter, mq_up]
theorem ce_j (h7 : j ≠ 7) (h10 : j ≠ 10) (h11 : j ≠ 11) (h12 : j ≠ 12) : cEnter σ p K st w s 5 K' j = σ 5 K' j := by simp [cEnter, mq_up, h7, h10, h11, h12]
theorem pi_enter (h : ∀ K', K' < 32 → K' ≠ K → PI σ K') (h2 : ¬ 0 < σ 5 K 5 → σ 5 K 8 = -1) (h0 : st = 0 → σ 5 K 8 = -1) (h3 : ¬ st = 3 → s = -1) (h1 : st = 1 → w = -1) : ∀ K', K' < 32 → PI (cEnter σ p K st w s) K' := by
  intro K' hK'
  unfold PI
  rw [ce_j (j := 8) (by decide) (by decide) (by decide) (by decide), ce_j (j := 5) (by decide) (by decide) (by decide) (by decide)]
  by_cases e : K' = K
  · subst e
    rw [ce_7, ce_10, ce_11]
    exact ⟨h0, h2, h3, h1⟩
  · obtain ⟨a1, a2, a3, a4⟩ := h K' hK' e
    rw [ce_ne e, ce_ne e, ce_ne e]
    exact ⟨a1, a2, a3, a4⟩
theorem f7_enter : (fun k => cEnter σ p K st w s 5 k 7) = upf (fun k => σ 5 k 7) K st := by
  funext k
  by_cases e : k = K
  · rw [e, upf_eq, ce_7]
  · rw [upf_ne e, ce_ne e]
theorem f12_enter : (fun k => cEnter σ p K st w s 5 k 12) = upf (fun k => σ 5 k 12) K (σ 4 p 6) := by
  funext k
  by_cases e : k = K
  · rw [e, upf_eq]; simp [cEnter, mq_up]
  · rw [upf_ne e, ce_ne e]
theorem f6_enter : (fun k => cEnter σ p K st w s 4 k 6) = upf (fun k => σ 4 k 6) p (σ 4 p 6 + 1) := by
  funext k
  by_cases e : k = p
  · rw [e, upf_eq]; simp [cEnter, mq_up]
  · rw [upf_ne e]; simp [cEnter, mq_up, e]
theorem f41_ready : (fun k => mReady μ K 13 41 k) = upf (fun k => μ 13 41 k) K (μ 7 0 27) := by
  funext k
  by_cases e : k = K
  · rw [e, upf_eq]; simp [mReady, mq_up]
  · rw [upf_ne e]; simp [mReady, mq_up, e]
theorem og_ready (h : OGs b σ μ) (hp : p < 4) (hq : q < 8) : OGs (b + 1) (cEnter σ p (8 * p + q) st w s) (mReady μ (8 * p + q)) := by
  unfold OGs
  rw [f7_enter, f12_enter, f6_enter, f41_ready]
  exact h.bump hp hq st
theorem og_rest (h : OGs b σ μ) (hp : p < 4) (hq : q < 8) (hv : ¬ (st = 1 ∨ st = 3)) : OGs (b + 1) (cEnter σ p (8 * p + q) st w s) μ := by
  unfold OGs
  rw [f7_enter, f12_enter, f6_enter]
  exact h.rest hp hq hv
theorem og_eq {σ' μ' : mSg} (h : OGs b σ μ) (h7 : ∀ k, σ' 5 k 7 = σ 5 k 7) (h12 : ∀ k, σ' 5 k 12 = σ 5 k 12) (h6 : ∀ k, σ' 4 k 6 = σ 4 k 6) (h41 : ∀ k, μ' 13 41 k = μ 13 41 k) (h27 : μ' 7 0 27 = μ 7 0 27) : OGs b σ' μ' := by
  unfold OGs
  rw [funext h7, funext h12, funext h6, funext h41, h27]
  exact h
/-- processes alike, in order, and as they must be -/
def PK (b : Nat) (σ0 μ0 σ μ : mSg) : Prop := Rel σ0 μ0 σ μ ∧ (∀ K, K < 32 → PI σ K) ∧ OGs b σ μ
theorem PK.mono {b' : Nat} (h : PK b σ0 μ0 σ μ) (hb : b ≤ b') : PK b' σ0 μ0 σ μ := ⟨h.1, h.2.1, h.2.2.mono hb⟩
theorem PK.ready (h : PK b σ0 μ0 σ μ) (hp : p < 4) (hq : q < 8) : PK (b + 1) σ0 μ0 (cEnter σ p (8 * p + q) 1 (-1) (-1)) (mReady μ (8 * p + q)) :=
  ⟨rel_ready h.1 (by omega), pi_enter (fun K' hK' _ => h.2.1 K' hK') (h.2.1 _ (by omega)).2.1 (fun h => absurd h (by decide)) (fun _ => rfl) (fun _ => rfl), og_ready h.2.2 hp hq⟩
theorem PK.rest (h : PK b σ0 μ0 σ μ) (hp : p < 4) (hq : q < 8) : PK (b + 1) σ0 μ0 (cRest σ p (8 * p + q)) (mSleep μ (8 * p + q)) := by
  refine ⟨rel_rest h.1 (by omega), pi_enter (fun K' hK' e => ?_) (fun _ => up_eq _ _ _ _ _) (fun _ => up_eq _ _ _ _ _) (fun _ => rfl) (fun h => absurd h (by decide)), og_eq (σ := cEnter (mq_up σ 5 (8 * p + q) 8 (-1)) p (8 * p + q) 0 (-1) (-1)) (μ := μ) (og_rest (og_eq h.2.2 (fun k => up_nj (by decide)) (fun k => up_nj (by decide)) (fun k => up_nk (by decide)) (fun _ => rfl) rfl) hp hq (by decide)) (fun _ => rfl) (fun _ => rfl) (fun _ => rfl) (fun k => rfl) rfl⟩
  obtain ⟨a1, a2, a3, a4⟩ := h.2.1 K' hK'
  unfold PI
  rw [up_nj (j' := 7) (by decide), up_nj (j' := 5) (by decide), up_nj (j' := 11) (by decide), up_nj (j' := 10) (by decide)]
  rw [up_ni e]
  exact ⟨a1, a2, a3, a4⟩
theorem PK.start (h : PK b σ0 μ0 σ μ) (hp : p < 4) (hq : q < 8) (hn : now = μ 7 0 2) : PK (b + 1) σ0 μ0 (cStart σ p (8 * p + q) now) (mStart μ (8 * p + q)) := by
  have hz : ∀ i j, mq_zr σ 13 (8 * p + q) 0 32 5 i j = σ 5 i j := fun i j => by
    unfold mq_zr
    rw [if_neg]
    rintro ⟨h, -⟩
    exact absurd h (by decide)
  have hz4 : ∀ i j, mq_zr σ 13 (8 * p + q) 0 32 4 i j = σ 4 i j := fun i j => by
    unfold mq_zr
    rw [if_neg]
    rintro ⟨h, -⟩
    exact absurd h (by decide)
  have key : ∀ k j, j ≠ 6 → j ≠ 9 → j ≠ 8 → cRelAt (cReset σ (8 * p + q)) (8 * p + q) now 5 k j = σ 5 k j := fun k j h6 h9 h8 => by
    unfold cRelAt cReset
    rw [up_nj h8, up_nj h9, up_nj h6, hz]
  refine ⟨rel_start h.1 (by omega) hn, pi_enter (fun K' hK' e => ?_) (fun h5 => ?_) (fun h => absurd h (by decide)) (fun _ => rfl) (fun _ => rfl), og_ready (og_eq h.2.2 (fun k => key k 7 (by decide) (by decide) (by decide)) (fun k => key k 12 (by decide) (by decide) (by decide)) (fun k => ?_) (fun k => ?_) ?_) hp hq⟩
  · obtain ⟨a1, a2, a3, a4⟩ := h.2.1 K' hK'
    unfold PI
    rw [key K' 7 (by decide) (by decide) (by decide), key K' 5 (by decide) (by decide) (by decide), key K' 11 (by decide) (by decide) (by decide), key K' 10 (by decide) (by decide) (by decide)]
    have e8 : cRelAt (cReset σ (8 * p + q)) (8 * p + q) now 5 K' 8 = σ 5 K' 8 := by
      unfold cRelAt cReset
      rw [up_ni e, up_ni e, up_ni e, hz]
    rw [e8]
    exact ⟨a1, a2, a3, a4⟩
  · rw [key _ 5 (by decide) (by decide) (by decide)] at h5
    have e5 : cReset σ (8 * p + q) 5 (8 * p + q) 5 = σ 5 (8 * p + q) 5 := by unfold cReset; rw [up_nj (by decide), hz]
    unfold cRelAt
    rw [up_eq, e5, if_neg h5]
  · unfold cRelAt cReset
    rw [up_nk (by decide), up_nk (by decide), up_nk (by decide), hz4]
  · unfold mDue
    rw [up_ni (by decide), up_ni (by decide), up_ni (by decide)]
    unfold mq_zr
    rw [if_neg]
    rintro ⟨h, -⟩
    exact absurd h (by decide)
  · unfold mDue
    rw [up_nk (by decide), up_nk (by decide), up_nk (by decide)]
    unfold mq_zr
    rw [if_neg]
    rintro ⟨h, -⟩
    exact absurd h (by decide)
end INVP
