/-! All processes of a partition begin; a partition's restart. -/
def cSA (σ : mSg) (p : Nat) (now : Int32) : Nat → mSg
  | 0 => σ
  | n + 1 => cStart (cSA σ p now n) p (8 * p + n) now
def mSA (μ : mSg) (p : Nat) : Nat → mSg
  | 0 => μ
  | n + 1 => mStart (mSA μ p n) (8 * p + n)
section SA
variable {d p q K b N : Nat} {σ μ σ0 μ0 : mSg} {now v : Int32}
theorem pf_SA : ∀ n, PF σ (cSA σ p now n)
  | 0 => PF.rf
  | n + 1 => (pf_SA n).tr pf_start
theorem mf_SA : ∀ n, MF μ (mSA μ p n)
  | 0 => MF.rf
  | n + 1 => (mf_SA n).tr mf_start
theorem PK.SA (h : PK b σ0 μ0 σ μ) (hp : p < 4) (hn : now = μ 7 0 2) : ∀ n, n ≤ 8 → PK (b + n) σ0 μ0 (cSA σ p now n) (mSA μ p n)
  | 0, _ => h
  | n + 1, hle => (PK.SA h hp hn n (by omega)).start hp (by omega) (hn.trans ((mf_SA n) 7 0 2 (by decide) (by decide) (by decide)).symm)
theorem L28 (hN : N ≤ 8) (hc : σ 4 p 5 = nI N) {r : mRz} {ω : mSg} : ∀ m n, n + m = N → Rn (d + 2) 28 2 [(0, .inr (some (4, p))), (1, .inl now), (2, .inl (nI N))] [] (cSA σ p now N) r ω → Rn (d + 2) 28 2 [(0, .inr (some (4, p))), (1, .inl now), (2, .inl (nI n))] [] (cSA σ p now n) r ω
  | 0, n, h, hz => by
    have e : n = N := by omega
    rw [e]; exact hz
  | m + 1, n, h, hz => by
    have ih := L28 hN hc m (n + 1) (by omega) hz
    have hc' : cSA σ p now n 4 p 5 = nI N := (pf_SA n 4 p 5 (by decide) (by decide) (by decide)).trans hc
    refine P28_2_1 (by rw [hc']; exact (nI_ltI (by omega) (by omega)).mpr (by omega)) (nI_in (show n < 8 by omega) (by decide)) (σ3 := cSA σ p now (n + 1)) ?_ ?_
    · rw [nI_clamp (by omega)]
      exact S27
    · rw [nI_1]
      exact ih
theorem L28b {r : mRz} {ω : mSg} {x1 : Int32} : ∀ m n, n + m = 4 → Rn d 28 29 [(0, .inr (some (4, p))), (1, .inl x1), (2, .inl (nI 4))] [] (mq_zr σ 10 (2 * p) 0 4) r ω → Rn d 28 29 [(0, .inr (some (4, p))), (1, .inl x1), (2, .inl (nI n))] [] (mq_zr σ 10 (2 * p) 0 n) r ω
  | 0, n, h, hz => by
    have e : n = 4 := by omega
    rw [e]; exact hz
  | m + 1, n, h, hz => by
    have ih := L28b m (n + 1) (by omega) hz
    refine P28_29_1 ((nI_ltI (by omega) (by decide)).mpr (show n < 4 by omega)) (nI_in (show n < 4 by omega) (by decide)) ?_
    have e := zr_s σ 10 (2 * p) 0 n
    rw [Nat.zero_add] at e
    rw [nI_clamp (by omega), nI_1, e]
    exact ih
theorem S28 (hN : N ≤ 8) (hc : σ 4 p 5 = nI N) : Sp (d + 3) 28 [.inr (some (4, p)), .inl now] σ (.inl none) (mq_zr (cSA σ p now N) 10 (2 * p) 0 4) := by
  have hc' : cSA σ p now N 4 p 5 = nI N := (pf_SA N 4 p 5 (by decide) (by decide) (by decide)).trans hc
  refine P28_1 (L28 hN hc N 0 (by omega) ?_)
  refine P28_2_2 (by rw [hc']; exact fun h => Int32.lt_irrefl h) ?_
  have h := L28b (d := d + 2) (p := p) (σ := cSA σ p now N) (x1 := now) (r := .inl none) (ω := mq_zr (cSA σ p now N) 10 (2 * p) 0 4) 4 0 rfl
  rw [zr_0] at h
  exact h (P28_29_2 (by decide))
theorem L105 (hp : p < 4) {r : mRz} {ω : mSg} : ∀ m n, n + m = 4 → Rn d 105 12 [(0, .inr (some (7, 0))), (1, .inl (nI p)), (2, .inl (nI 4))] [] (mq_zr μ 12 1 (4 * p) 4) r ω → Rn d 105 12 [(0, .inr (some (7, 0))), (1, .inl (nI p)), (2, .inl (nI n))] [] (mq_zr μ 12 1 (4 * p) n) r ω
  | 0, n, h, hz => by
    have e : n = 4 := by omega
    rw [e]; exact hz
  | m + 1, n, h, hz => by
    have ih := L105 hp m (n + 1) (by omega) hz
    refine P105_12_1 ((nI_ltI (by omega) (by decide)).mpr (show n < 4 by omega)) (by rw [ix4]; exact nI_in (show 4 * p + n < 16 by omega) (by decide)) ?_
    rw [ix4, nI_clamp (by omega), nI_1, zr_s]
    exact ih
theorem L105b (hp : p < 4) (hN : N ≤ 8) (hc : μ 10 8 p = nI N) {r : mRz} {ω : mSg} : ∀ m n, n + m = N → Rn (d + 2) 105 36 [(0, .inr (some (7, 0))), (1, .inl (nI p)), (2, .inl (nI N))] [] (mSA μ p N) r ω → Rn (d + 2) 105 36 [(0, .inr (some (7, 0))), (1, .inl (nI p)), (2, .inl (nI n))] [] (mSA μ p n) r ω
  | 0, n, h, hz => by
    have e : n = N := by omega
    rw [e]; exact hz
  | m + 1, n, h, hz => by
    have ih := L105b hp hN hc m (n + 1) (by omega) hz
    have hc' : mSA μ p n 10 8 p = nI N := (mf_SA n 10 8 p (by decide) (by decide) (by omega)).trans hc
    refine P105_36_1 (nI_in hp (by decide)) (by rw [nI_clamp (by omega), hc']; exact (nI_ltI (by omega) (by omega)).mpr (by omega)) (σ3 := mSA μ p (n + 1)) ?_ ?_
    · rw [ix8]
      exact S103 (by omega)
    · rw [nI_1]
      exact ih
theorem S105 (hp : p < 4) (hN : N ≤ 8) (hc : μ 10 8 p = nI N) : Sp (d + 3) 105 [.inr (some (7, 0)), .inl (nI p)] μ (.inl none) (mSA (mq_zr (mq_up μ 10 9 p (μ 10 9 p + 1)) 12 1 (4 * p) 4) p N) := by
  have h0 := L105 (d := d + 2) (μ := mq_up μ 10 9 p (μ 10 9 p + 1)) hp (r := .inl none) (ω := mSA (mq_zr (mq_up μ 10 9 p (μ 10 9 p + 1)) 12 1 (4 * p) 4) p N) 4 0 rfl
  rw [zr_0] at h0
  have e := nI_clamp (n := p) (by omega)
  refine P105_1 (nI_in hp (by decide)) ?_
  rw [e]
  refine h0 (P105_12_2 (by decide) ?_)
  have hc1 : mq_zr (mq_up μ 10 9 p (μ 10 9 p + 1)) 12 1 (4 * p) 4 10 8 p = nI N := by
    show (if 10 = 12 ∧ _ then (0 : Int32) else mq_up μ 10 9 p (μ 10 9 p + 1) 10 8 p) = nI N
    rw [if_neg (by rintro ⟨h, -⟩; exact absurd h (by decide)), up_ni (by decide), hc]
  refine L105b (d := d) hp hN hc1 N 0 (by omega) ?_
  have hc2 : mSA (mq_zr (mq_up μ 10 9 p (μ 10 9 p + 1)) 12 1 (4 * p) 4) p N 10 8 p = nI N := (mf_SA N 10 8 p (by decide) (by decide) (by omega)).trans hc1
  exact P105_36_2 (nI_in hp (by decide)) (by rw [e, hc2]; exact fun h => Int32.lt_irrefl h)
/-! cells that a start doesn't touch may be written before or behind it -/
theorem up_comm {f : mSg} {k i j k' i' j' : Nat} {v v' : Int32} (h : ¬ (k = k' ∧ i = i' ∧ j = j')) : mq_up (mq_up f k i j v) k' i' j' v' = mq_up (mq_up f k' i' j' v') k i j v := by
  funext a b c
  rw [up_if, up_if, up_if, up_if]
  by_cases h1 : a = k' ∧ b = i' ∧ c = j'
  · rw [if_pos h1, if_pos h1, if_neg]
    rintro ⟨rfl, rfl, rfl⟩
    exact h h1
  · rw [if_neg h1, if_neg h1]
theorem zr_comm {f : mSg} {k i j k' i' a n : Nat} {v : Int32} (h : k ≠ k') : mq_zr (mq_up f k i j v) k' i' a n = mq_up (mq_zr f k' i' a n) k i j v := by
  funext x y z
  unfold mq_zr
  rw [up_if, up_if]
  by_cases h1 : x = k' ∧ y = i' ∧ a ≤ z ∧ z < a + n
  · rw [if_pos h1, if_neg, if_pos h1]
    rintro ⟨rfl, -⟩
    exact h h1.1
  · rw [if_neg h1, if_neg h1]
theorem cStart_comm {k i j : Nat} (h5 : k ≠ 5) (h13 : k ≠ 13) (h4 : ¬ (k = 4 ∧ j = 6)) : cStart (mq_up σ k i j v) p K now = mq_up (cStart σ p K now) k i j v := by
  have e1 : mq_up σ k i j v 5 K 2 = σ 5 K 2 := up_nk (Ne.symm h5)
  have e2 : cReset (mq_up σ k i j v) K = mq_up (cReset σ K) k i j v := by
    unfold cReset
    rw [e1, zr_comm h13, up_comm (fun h => h5 h.1)]
  have e3 : cRelAt (mq_up (cReset σ K) k i j v) K now = mq_up (cRelAt (cReset σ K) K now) k i j v := by
    unfold cRelAt
    rw [up_nk (Ne.symm h5), up_comm (fun h => h5 h.1), up_comm (fun h => h5 h.1)]
  unfold cStart
  rw [e2, e3]
  generalize cRelAt (cReset σ K) K now = τ
  have e4 : mq_up τ k i j v 4 p 6 = τ 4 p 6 := by
    rw [up_if, if_neg]
    rintro ⟨rfl, rfl, rfl⟩
    exact h4 ⟨rfl, rfl⟩
  unfold cEnter
  rw [e4, up_comm (fun h => h5 h.1), up_comm (fun h => h5 h.1), up_comm (fun h => h5 h.1), up_comm (fun h => h5 h.1), up_comm (fun h => h4 ⟨h.1, h.2.2⟩)]
theorem cSA_comm {k i j : Nat} (h5 : k ≠ 5) (h13 : k ≠ 13) (h4 : ¬ (k = 4 ∧ j = 6)) : ∀ n, cSA (mq_up σ k i j v) p now n = mq_up (cSA σ p now n) k i j v
  | 0 => rfl
  | n + 1 => by
    show cStart (cSA (mq_up σ k i j v) p now n) p (8 * p + n) now = _
    rw [cSA_comm h5 h13 h4 n, cStart_comm h5 h13 h4]
    rfl
theorem cSA_zr {i a : Nat} : ∀ m n, cSA (mq_zr σ 10 i a m) p now n = mq_zr (cSA σ p now n) 10 i a m
  | 0, n => by rw [zr_0, zr_0]
  | m + 1, n => by rw [← zr_s, cSA_comm (by decide) (by decide) (by omega), cSA_zr m n, zr_s]
/-- all the processes begin, and the semaphores are 0: a restart -/
theorem PK.restart (h : PK b σ0 μ0 σ μ) (hp : p < 4) (hN : N ≤ 8) (hn : now = μ 7 0 2) : PK (b + N) σ0 μ0 (mq_up (mq_zr (cSA σ p now N) 10 (2 * p) 0 4) 4 p 7 (σ 4 p 7 + 1)) (mSA (mq_zr (mq_up μ 10 9 p (μ 10 9 p + 1)) 12 1 (4 * p) 4) p N) := by
  have e : μ 10 9 p = σ 4 p 7 := h.1.get (lk_4 hp rfl)
  have h1 : PK b σ0 μ0 (mq_zr (mq_up σ 4 p 7 (σ 4 p 7 + 1)) 10 (2 * p) 0 4) (mq_zr (mq_up μ 10 9 p (μ 10 9 p + 1)) 12 1 (4 * p) 4) := by
    rw [e]
    refine ⟨(h.1.both (lk_4 hp rfl) (σ 4 p 7 + 1)).zsems hp 4 (Nat.le_refl _), fun K hK => ?_, og_eq h.2.2 (fun _ => rfl) (fun _ => rfl) (fun k => ?_) (fun _ => rfl) rfl⟩
    · exact h.2.1 K hK
    · show mq_up σ 4 p 7 (σ 4 p 7 + 1) 4 k 6 = σ 4 k 6
      exact up_nj (by decide)
  have h2 := h1.SA hp (now := now) hn N hN
  rw [cSA_zr, cSA_comm (by decide) (by decide) (by decide), zr_comm (by decide)] at h2
  exact h2
end SA
