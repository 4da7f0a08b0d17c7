/-! What both do with a process: specs, and that they stay alike. -/
theorem up_same {f : mSg} {k i j : Nat} {v : Int32} (h : f k i j = v) : mq_up f k i j v = f := by
  funext a b c
  rw [up_if]
  by_cases hc : a = k ∧ b = i ∧ c = j
  · rw [if_pos hc, hc.1, hc.2.1, hc.2.2, h]
  · rw [if_neg hc]
def cEnter (σ : mSg) (p K : Nat) (st w s : Int32) : mSg := mq_up (mq_up (mq_up (mq_up (mq_up σ 5 K 7 st) 5 K 10 w) 5 K 11 s) 5 K 12 (σ 4 p 6)) 4 p 6 (σ 4 p 6 + 1)
def cReset (σ : mSg) (K : Nat) : mSg := mq_up (mq_zr σ 13 K 0 32) 5 K 6 (σ 5 K 2)
def cRelAt (σ : mSg) (K : Nat) (now : Int32) : mSg := mq_up (mq_up σ 5 K 9 now) 5 K 8 (if 0 < σ 5 K 5 then now + σ 5 K 5 else -1)
def cStart (σ : mSg) (p K : Nat) (now : Int32) : mSg := cEnter (cRelAt (cReset σ K) K now) p K 1 (-1) (-1)
def cRest (σ : mSg) (p K : Nat) : mSg := cEnter (mq_up σ 5 K 8 (-1)) p K 0 (-1) (-1)
def mReady (μ : mSg) (K : Nat) : mSg := mq_up (mq_up (mq_up (mq_up (mq_up μ 13 37 K 1) 13 39 K (-1)) 13 40 K (-1)) 13 41 K (μ 7 0 27)) 7 0 27 (μ 7 0 27 + 1)
def mDue (μ : mSg) (K : Nat) : mSg := mq_up (mq_up (mq_up (mq_zr μ 16 0 (32 * K) 32) 13 36 K (μ 13 32 K)) 13 43 K (μ 7 0 2)) 13 38 K (if 0 < μ 13 35 K then μ 7 0 2 + μ 13 35 K else -1)
def mStart (μ : mSg) (K : Nat) : mSg := mReady (mDue μ K) K
def mSleep (μ : mSg) (K : Nat) : mSg := mq_up (mq_up (mq_up (mq_up μ 13 37 K 0) 13 38 K (-1)) 13 39 K (-1)) 13 40 K (-1)
section PROCS
variable {d p K : Nat} {σ μ σ0 μ0 : mSg} {st w s now : Int32}
theorem S41 : Sp (d + 1) 41 [.inr (some (4, p)), .inr (some (5, K)), .inl st, .inl w, .inl s] σ (.inl none) (cEnter σ p K st w s) := P41_1
theorem L45 {r : mRz} {ω : mSg} : ∀ m n, n + m = 32 → Rn d 45 2 [(0, .inr (some (5, K))), (1, .inl (nI 32))] [] (mq_zr σ 13 K 0 32) r ω → Rn d 45 2 [(0, .inr (some (5, K))), (1, .inl (nI n))] [] (mq_zr σ 13 K 0 n) r ω
  | 0, n, h, hz => by
    have e : n = 32 := by omega
    rw [e]; exact hz
  | m + 1, n, h, hz => by
    have ih := L45 m (n + 1) (by omega) hz
    refine P45_2_1 ((nI_ltI (by omega) (by decide)).mpr (show n < 32 by omega)) (nI_in (show n < 32 by omega) (by decide)) ?_
    rw [nI_clamp (by omega), nI_1]
    have e := zr_s σ 13 K 0 n
    rw [Nat.zero_add] at e
    rw [e]
    exact ih
theorem S45 : Sp (d + 1) 45 [.inr (some (5, K))] σ (.inl none) (cReset σ K) := by
  refine P45_1 ?_
  have h := L45 (d := d) (K := K) (σ := σ) (r := .inl none) (ω := cReset σ K) 32 0 rfl
  rw [zr_0] at h
  refine h ?_
  exact P45_2_2 (by decide)
theorem S46 : Sp (d + 1) 46 [.inr (some (5, K)), .inl now] σ (.inl none) (cRelAt σ K now) := by
  have e : mq_up σ 5 K 9 now 5 K 5 = σ 5 K 5 := up_nj (by decide)
  unfold cRelAt
  by_cases h : 0 < σ 5 K 5
  · rw [if_pos h, ← e]
    exact P46_1 (by rw [e]; exact h)
  · rw [if_neg h]
    exact P46_2 (by rw [e]; exact h)
theorem S27 : Sp (d + 2) 27 [.inr (some (4, p)), .inr (some (5, K)), .inl now] σ (.inl none) (cStart σ p K now) := P27_1 S45 S46 S41
theorem S29 : Sp (d + 2) 29 [.inr (some (4, p)), .inr (some (5, K))] σ (.inl none) (cRest σ p K) := P29_1 S41
theorem S102 (hK : K < 32) : Sp (d + 1) 102 [.inr (some (7, 0)), .inl (nI K)] μ (.inl none) (mReady μ K) := by
  have h := P102_1 (d := d) (σ := μ) (x1 := nI K) (nI_in hK (by decide))
  rw [nI_clamp (by omega)] at h
  exact h
theorem S104 (hK : K < 32) : Sp (d + 1) 104 [.inr (some (7, 0)), .inl (nI K)] μ (.inl none) (mSleep μ K) := by
  have h := P104_1 (d := d) (σ := μ) (x1 := nI K) (nI_in hK (by decide))
  rw [nI_clamp (by omega)] at h
  exact h
theorem L103 (hK : K < 32) {r : mRz} {ω : mSg} : ∀ m n, n + m = 32 → Rn d 103 2 [(0, .inr (some (7, 0))), (1, .inl (nI K)), (2, .inl (nI 32))] [] (mq_zr μ 16 0 (32 * K) 32) r ω → Rn d 103 2 [(0, .inr (some (7, 0))), (1, .inl (nI K)), (2, .inl (nI n))] [] (mq_zr μ 16 0 (32 * K) n) r ω
  | 0, n, h, hz => by
    have e : n = 32 := by omega
    rw [e]; exact hz
  | m + 1, n, h, hz => by
    have ih := L103 hK m (n + 1) (by omega) hz
    refine P103_2_1 ((nI_ltI (by omega) (by decide)).mpr (show n < 32 by omega)) (by rw [ix32]; exact nI_in (show 32 * K + n < 1024 by omega) (by decide)) ?_
    rw [ix32, nI_clamp (by omega), nI_1, zr_s]
    exact ih
theorem S103 (hK : K < 32) : Sp (d + 2) 103 [.inr (some (7, 0)), .inl (nI K)] μ (.inl none) (mStart μ K) := by
  refine P103_1 ?_
  have h := L103 (d := d + 1) (μ := μ) hK (r := .inl none) (ω := mStart μ K) 32 0 rfl
  rw [zr_0] at h
  refine h ?_
  have hb : ¬ (nI K < 0 ∨ 32 ≤ (nI K).toNatClampNeg) := nI_in hK (by decide)
  have hs := S102 (d := d) (μ := mDue μ K) hK
  have e := nI_clamp (n := K) (by omega)
  unfold mStart
  by_cases hd : 0 < μ 13 35 K
  · refine P103_2_2 (by decide) hb (by rw [e]; exact hd) ?_
    rw [e]
    unfold mDue at hs ⊢
    rw [if_pos hd] at hs ⊢
    exact hs
  · refine P103_2_3 (by decide) hb (by rw [e]; exact hd) ?_
    rw [e]
    unfold mDue at hs ⊢
    rw [if_neg hd] at hs ⊢
    exact hs
theorem lk_p' (hK : K < 32) (j f : Nat) (hf : lkF j = f) (h0 : f ≠ 0 := by decide) : lk 5 K j = some (13, f, K) := by
  subst hf
  exact lk_p hK h0
theorem rel_ready (h : Rel σ0 μ0 σ μ) (hK : K < 32) : Rel σ0 μ0 (cEnter σ p K 1 (-1) (-1)) (mReady μ K) :=
  ((((((h.both (lk_p' hK 7 37 rfl) 1).both (lk_p' hK 10 39 rfl) (-1)).both (lk_p' hK 11 40 rfl) (-1)).left (k := 5) (i := K) (j := 12) (by simp [lk, lkF]) rfl (σ 4 p 6)).left (k := 4) (i := p) (j := 6) (by simp [lk]) rfl (σ 4 p 6 + 1)).right (k' := 13) (i' := 41) (j' := K) rfl rfl (μ 7 0 27)).right (k' := 7) (i' := 0) (j' := 27) rfl rfl (μ 7 0 27 + 1)
theorem rel_start (h : Rel σ0 μ0 σ μ) (hK : K < 32) (hn : now = μ 7 0 2) : Rel σ0 μ0 (cStart σ p K now) (mStart μ K) := by
  refine rel_ready ?_ hK
  have e1 : μ 13 32 K = σ 5 K 2 := h.get (lk_p' hK 2 32 rfl)
  have e2 : μ 13 35 K = σ 5 K 5 := h.get (lk_p' hK 5 35 rfl)
  have h1 := (((h.zregs hK 32 (Nat.le_refl _)).both (lk_p' hK 6 36 rfl) (σ 5 K 2)).both (lk_p' hK 9 43 rfl) now).both (lk_p' hK 8 38 rfl) (if 0 < σ 5 K 5 then now + σ 5 K 5 else -1)
  have e3 : cReset σ K 5 K 5 = σ 5 K 5 := up_nj (by decide)
  unfold cRelAt mDue
  rw [e1, e2, ← hn, e3]
  exact h1
theorem rel_rest (h : Rel σ0 μ0 σ μ) (hK : K < 32) : Rel σ0 μ0 (cRest σ p K) (mSleep μ K) := by
  have h1 := ((((h.both (lk_p' hK 8 38 rfl) (-1)).both (lk_p' hK 7 37 rfl) 0).both (lk_p' hK 10 39 rfl) (-1)).both (lk_p' hK 11 40 rfl) (-1))
  have h2 := (h1.left (k := 5) (i := K) (j := 12) (by simp [lk, lkF]) rfl (σ 4 p 6)).left (k := 4) (i := p) (j := 6) (by simp [lk]) rfl (σ 4 p 6 + 1)
  have e : mq_up (mq_up μ 13 38 K (-1)) 13 37 K 0 = mq_up (mq_up μ 13 37 K 0) 13 38 K (-1) := by
    funext a b c
    rw [up_if, up_if, up_if, up_if]
    by_cases h1 : a = 13 ∧ b = 37 ∧ c = K
    · obtain ⟨rfl, rfl, rfl⟩ := h1
      simp
    · rw [if_neg h1, if_neg h1]
  rw [e] at h2
  exact h2
end PROCS
