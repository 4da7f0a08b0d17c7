/-! What else holds, all the while: numbers, semaphores, memories, channels, errors, windows. -/
def CI (σ : mSg) : Prop := (∀ p, p < 4 → σ 4 p 0 = nI p ∧ ∃ n, n ≤ 8 ∧ σ 4 p 5 = nI n) ∧ (∀ p q, p < 4 → q < 8 → σ 5 (8 * p + q) 0 = nI q) ∧ (∀ p e, p < 4 → e < 4 → ∃ a, a ≤ 4 ∧ σ 10 (2 * p + 1) e = nI a) ∧ ∃ n, n ≤ 8 ∧ σ 6 0 4 = nI n
def SI (σ : mSg) : Prop := (∀ p s, p < 4 → s < 4 → ∃ v, v ≤ 1000 ∧ σ 10 (2 * p) s = nI v) ∧ (σ 6 0 7 = 0 → ∀ p s, p < 4 → s < 4 → σ 10 (2 * p) s = 0)
def MI (σ μ : mSg) : Prop := ∀ p j i, p < 4 → j < 256 → i < 4 → μ 30 0 (1024 * p + 4 * j + i) = Int8.toInt32 (Int32.toInt8 (σ 15 p j >>> (nI (8 * i) &&& 31)))
def QC (σ μ : mSg) (ch : Nat) : Prop := ∃ h n, h < 8 ∧ n ≤ 8 ∧ σ 0 ch 5 = nI h ∧ σ 0 ch 6 = nI n ∧ (∀ j, j < n → μ 14 4 (8 * ch + j) = σ 11 (2 + ch) ((h + j) % 8)) ∧
  (σ 0 ch 1 = 0 → h = 0 ∧ n ≤ 1 ∧ (n = 0 → σ 0 ch 7 = -1) ∧ (n = 1 → μ 11 16 ch = σ 0 ch 7)) ∧ (¬ σ 0 ch 1 = 0 → σ 0 ch 7 = -1 ∧ ∃ l, l ≤ 8 ∧ σ 0 ch 4 = nI l ∧ n ≤ l)
def QI (σ μ : mSg) : Prop := ∀ ch, ch < 8 → QC σ μ ch
def sumN (f : Nat → Nat) : Nat → Nat
  | 0 => 0
  | n + 1 => sumN f n + f n
def WI (b : Nat) (σ μ : mSg) : Prop := ∃ (W T c s : Nat) (ln : Nat → Nat), W ≤ 8 ∧ T ≤ b ∧ σ 2 0 2 = nI W ∧ σ 6 0 5 = nI T ∧ σ 2 0 3 = nI c ∧ σ 2 0 4 = nI s ∧ μ 7 0 4 = nI (sumN ln W) ∧ (∀ j, j < W → 1 ≤ ln j ∧ ln j ≤ 100 ∧ σ 11 1 j = nI (ln j) ∧ ∃ o, o < 4 ∧ σ 11 0 j = nI o) ∧
  (σ 6 0 7 = 0 → T = 0 ∧ c = 0 ∧ s = 0) ∧ (¬ σ 6 0 7 = 0 → 0 < W ∧ c < W ∧ s < ln c ∧ T % sumN ln W = sumN ln c + s)
def EI (b : Nat) (σ : mSg) : Prop := ∃ e, e ≤ b ∧ σ 1 0 4 = nI e ∧ σ 1 0 6 = nI (e % 64) ∧ σ 1 0 5 = nI (if e < 64 then e else 64)
/-- the class's cells that these speak of, errors apart -/
def okR (k j : Nat) : Bool := match k with
  | 0 => true
  | 2 => true
  | 4 => j == 0 || j == 5
  | 5 => j == 0
  | 6 => j == 4 || j == 5 || j == 7
  | 10 => true
  | 11 => true
  | 15 => true
  | _ => false
def okRm (k i j : Nat) : Bool := match k with
  | 30 => true
  | 14 => i == 4
  | 11 => i == 16
  | 7 => j == 4
  | _ => false
def RFc (σ σ' : mSg) : Prop := ∀ k i j, okR k j = true → σ' k i j = σ k i j
def RFm (μ μ' : mSg) : Prop := ∀ k i j, okRm k i j = true → μ' k i j = μ k i j
def RI (b : Nat) (σ μ : mSg) : Prop := CI σ ∧ SI σ ∧ MI σ μ ∧ QI σ μ ∧ WI b σ μ
section INV2
variable {b b' k i j p q K : Nat} {σ μ σ' μ' σ1 μ1 σ0 μ0 : mSg} {v : Int32}
theorem RFc.rf : RFc σ σ := fun _ _ _ _ => rfl
theorem RFm.rf : RFm μ μ := fun _ _ _ _ => rfl
theorem RFc.tr (h1 : RFc σ σ1) (h2 : RFc σ1 σ') : RFc σ σ' := fun k i j h => (h2 k i j h).trans (h1 k i j h)
theorem RFm.tr (h1 : RFm μ μ1) (h2 : RFm μ1 μ') : RFm μ μ' := fun k i j h => (h2 k i j h).trans (h1 k i j h)
theorem RFc.up (h : okR k j = false) : RFc σ (mq_up σ k i j v) := fun a b c hc => by
  rw [up_if, if_neg]
  rintro ⟨rfl, rfl, rfl⟩
  rw [h] at hc; cases hc
theorem RFm.up (h : okRm k i j = false) : RFm μ (mq_up μ k i j v) := fun a b c hc => by
  rw [up_if, if_neg]
  rintro ⟨rfl, rfl, rfl⟩
  rw [h] at hc; cases hc
theorem PF.rfc (h : PF σ σ') : RFc σ σ' := fun k i j hk => by
  refine h k i j ?_ ?_ ?_
  · rintro rfl; cases hk
  · rintro ⟨rfl, rfl⟩; cases hk
  · rintro ⟨rfl, hj⟩
    have hk : (j == 0) = true := hk
    simp only [beq_iff_eq] at hk
    omega
theorem MF.rfm (h : MF μ μ') : RFm μ μ' := fun k i j hk => by
  refine h k i j ?_ ?_ ?_
  · rintro rfl; cases hk
  · rintro ⟨rfl, hj⟩; cases hk
  · rintro ⟨rfl, rfl⟩; cases hk
theorem CI.frame (h : CI σ) (hc : RFc σ σ') : CI σ' := by
  obtain ⟨h1, h2, h3, n, h4, h5⟩ := h
  refine ⟨fun p hp => ?_, fun p q hp hq => ?_, fun p e hp he => ?_, n, h4, ?_⟩
  · rw [hc 4 p 0 rfl, hc 4 p 5 rfl]; exact h1 p hp
  · rw [hc 5 _ 0 rfl]; exact h2 p q hp hq
  · rw [hc 10 _ e rfl]; exact h3 p e hp he
  · rw [hc 6 0 4 rfl]; exact h5
theorem SI.frame (h : SI σ) (hc : RFc σ σ') : SI σ' := by
  refine ⟨fun p s hp hs => ?_, fun h7 p s hp hs => ?_⟩
  · rw [hc 10 _ s rfl]; exact h.1 p s hp hs
  · rw [hc 6 0 7 rfl] at h7
    rw [hc 10 _ s rfl]; exact h.2 h7 p s hp hs
theorem MI.frame (h : MI σ μ) (hc : RFc σ σ') (hm : RFm μ μ') : MI σ' μ' := fun p j i hp hj hi => by
  rw [hm 30 0 _ rfl, hc 15 p j rfl]; exact h p j i hp hj hi
theorem QI.frame (h : QI σ μ) (hc : RFc σ σ') (hm : RFm μ μ') : QI σ' μ' := fun ch hch => by
  obtain ⟨hd, n, h1, h2, h3, h4, h5, h6, h7⟩ := h ch hch
  refine ⟨hd, n, h1, h2, by rw [hc 0 ch 5 rfl]; exact h3, by rw [hc 0 ch 6 rfl]; exact h4, fun j hj => ?_, ?_, ?_⟩
  · rw [hm 14 4 _ rfl, hc 11 _ _ rfl]; exact h5 j hj
  · rw [hc 0 ch 1 rfl, hc 0 ch 7 rfl, hm 11 16 _ rfl]; exact h6
  · rw [hc 0 ch 1 rfl, hc 0 ch 7 rfl, hc 0 ch 4 rfl]; exact h7
theorem WI.frame (h : WI b σ μ) (hc : RFc σ σ') (hm : RFm μ μ') (hb : b ≤ b') : WI b' σ' μ' := by
  obtain ⟨W, T, c, s, ln, h1, h2, h3, h4, h5, h6, h7, h8, h9, h10⟩ := h
  refine ⟨W, T, c, s, ln, h1, by omega, by rw [hc 2 0 2 rfl]; exact h3, by rw [hc 6 0 5 rfl]; exact h4, by rw [hc 2 0 3 rfl]; exact h5, by rw [hc 2 0 4 rfl]; exact h6, by rw [hm 7 0 4 rfl]; exact h7, fun j hj => ?_, ?_, ?_⟩
  · rw [hc 11 1 j rfl, hc 11 0 j rfl]; exact h8 j hj
  · rw [hc 6 0 7 rfl]; exact h9
  · rw [hc 6 0 7 rfl]; exact h10
theorem RI.frame (h : RI b σ μ) (hc : RFc σ σ') (hm : RFm μ μ') (hb : b ≤ b') : RI b' σ' μ' := ⟨h.1.frame hc, h.2.1.frame hc, h.2.2.1.frame hc hm, h.2.2.2.1.frame hc hm, h.2.2.2.2.frame hc hm hb⟩
theorem EI.frame (h : EI b σ) (h1 : ∀ j, σ' 1 0 j = σ 1 0 j) (hb : b ≤ b') : EI b' σ' := by
  obtain ⟨e, a1, a2, a3, a4⟩ := h
  exact ⟨e, by omega, by rw [h1]; exact a2, by rw [h1]; exact a3, by rw [h1]; exact a4⟩
/-- all that holds between both -/
def KI (b : Nat) (σ0 μ0 σ μ : mSg) : Prop := PK b σ0 μ0 σ μ ∧ RI b σ μ ∧ EI b σ
theorem KI.mono (h : KI b σ0 μ0 σ μ) (hb : b ≤ b') : KI b' σ0 μ0 σ μ := ⟨h.1.mono hb, h.2.1.frame RFc.rf RFm.rf hb, h.2.2.frame (fun _ => rfl) hb⟩
theorem KI.proc (h : KI b σ0 μ0 σ μ) (hp : PK b' σ0 μ0 σ' μ') (hc : PF σ σ') (hm : MF μ μ') (hb : b ≤ b') : KI b' σ0 μ0 σ' μ' :=
  ⟨hp, h.2.1.frame hc.rfc hm.rfm hb, h.2.2.frame (fun j => hc 1 0 j (by decide) (by omega) (by omega)) hb⟩
theorem KI.time (h : KI b σ0 μ0 σ μ) : μ 7 0 2 = σ 6 0 5 := h.1.1.get rfl
theorem KI.cnt (h : KI b σ0 μ0 σ μ) (hp : p < 4) : ∃ n, n ≤ 8 ∧ σ 4 p 5 = nI n := (h.2.1.1.1 p hp).2
end INV2
/-! An error is noted. -/
def cNote (σ : mSg) (m : Nat) (t a q k nx kp : Int32) : mSg := mq_up (mq_up (mq_up (mq_up (mq_up (mq_up (mq_up σ 14 0 m t) 14 1 m a) 14 2 m q) 14 3 m k) 1 0 6 nx) 1 0 5 kp) 1 0 4 (σ 1 0 4 + 1)
def mNote (μ : mSg) (m : Nat) (t a q k : Int32) : mSg := mq_up (mq_up (mq_up (mq_up (mq_up μ 14 5 m t) 14 6 m a) 14 7 m q) 14 8 m k) 7 0 36 (μ 7 0 36 + 1)
section NOTE
variable {d b m p q K : Nat} {σ μ σ0 μ0 : mSg} {t a x k nx kp : Int32}
theorem rfc_note : RFc σ (cNote σ m t a x k nx kp) := ((((((RFc.up rfl).tr (RFc.up rfl)).tr (RFc.up rfl)).tr (RFc.up rfl)).tr (RFc.up rfl)).tr (RFc.up rfl)).tr (RFc.up rfl)
theorem rfm_note : RFm μ (mNote μ m t a x k) := ((((RFm.up rfl).tr (RFm.up rfl)).tr (RFm.up rfl)).tr (RFm.up rfl)).tr (RFm.up rfl)
theorem lk_e {i m : Nat} (hi : i < 4) (hm : m < 64) : lk 14 i m = some (14, 5 + i, m) := by simp [lk, hi, hm]
theorem rel_note (h : Rel σ0 μ0 σ μ) (hm : m < 64) : Rel σ0 μ0 (cNote σ m t a x k nx kp) (mNote μ m t a x k) := by
  have e : μ 7 0 36 = σ 1 0 4 := h.get rfl
  unfold mNote
  rw [e]
  exact ((((((h.both (lk_e (i := 0) (by decide) hm) t).both (lk_e (i := 1) (by decide) hm) a).both (lk_e (i := 2) (by decide) hm) x).both (lk_e (i := 3) (by decide) hm) k).left (k := 1) (i := 0) (j := 6) rfl rfl nx).left (k := 1) (i := 0) (j := 5) rfl rfl kp).both (k := 1) (i := 0) (j := 4) rfl (σ 1 0 4 + 1)
theorem pk_note (h : PK b σ0 μ0 σ μ) (hm : m < 64) : PK b σ0 μ0 (cNote σ m t a x k nx kp) (mNote μ m t a x k) :=
  ⟨rel_note h.1 hm, fun K hK => h.2.1 K hK, og_eq h.2.2 (fun _ => rfl) (fun _ => rfl) (fun _ => rfl) (fun _ => rfl) rfl⟩
/-- noted: what both do -/
theorem note_both (h : KI b σ0 μ0 σ μ) (hb : b < 2 ^ 30) : ∃ m nx kp, m < 64 ∧ (∀ d t a x k, Sp (d + 1) 9 [.inr (some (1, 0)), .inl t, .inl a, .inl x, .inl k] σ (.inl none) (cNote σ m t a x k nx kp)) ∧ μ 7 0 36 - μ 7 0 36 / 64 * 64 = nI m ∧ ∀ t a x k, KI (b + 1) σ0 μ0 (cNote σ m t a x k nx kp) (mNote μ m t a x k) := by
  obtain ⟨e, a1, a2, a3, a4⟩ := h.2.2
  have he : μ 7 0 36 = nI e := (h.1.1.get (k := 1) (i := 0) (j := 4) rfl).trans a2
  have hm : e % 64 < 64 := Nat.mod_lt _ (by decide)
  have hcl := nI_clamp (n := e % 64) (by omega)
  have hbd : ¬ (σ 1 0 6 < 0 ∨ 64 ≤ (σ 1 0 6).toNatClampNeg) := by rw [a3]; exact nI_in hm (by decide)
  refine ⟨e % 64, if e % 64 + 1 < 64 then nI (e % 64 + 1) else 0, if 64 < σ 1 0 5 + 1 then 64 else σ 1 0 5 + 1, hm, fun d t a x k => ?_, by rw [he]; exact pk_rem (by omega) (by decide) (by decide), fun t a x k => ⟨(pk_note h.1 hm).mono (by omega), h.2.1.frame rfc_note rfm_note (by omega), e + 1, by omega, ?_, ?_, ?_⟩⟩
  · by_cases h1 : e % 64 + 1 < 64
    · have h2 := P9_1 (d := d) (σ := σ) (x1 := t) (x2 := a) (x3 := x) (x4 := k) hbd (by rw [a3, nI_1]; exact (nI_ltI (by omega) (by decide)).mpr h1)
      rw [if_pos h1, ← nI_1, ← a3]
      rw [show cNote σ (e % 64) t a x k (σ 1 0 6 + 1) (if 64 < σ 1 0 5 + 1 then 64 else σ 1 0 5 + 1) = cNote σ (σ 1 0 6).toNatClampNeg t a x k (σ 1 0 6 + 1) (if 64 < σ 1 0 5 + 1 then 64 else σ 1 0 5 + 1) by rw [a3, hcl]]
      exact h2
    · have h2 := P9_2 (d := d) (σ := σ) (x1 := t) (x2 := a) (x3 := x) (x4 := k) hbd (by rw [a3, nI_1]; exact fun h => h1 ((nI_ltI (by omega) (by decide)).mp h))
      rw [if_neg h1]
      rw [show cNote σ (e % 64) t a x k 0 (if 64 < σ 1 0 5 + 1 then 64 else σ 1 0 5 + 1) = cNote σ (σ 1 0 6).toNatClampNeg t a x k 0 (if 64 < σ 1 0 5 + 1 then 64 else σ 1 0 5 + 1) by rw [a3, hcl]]
      exact h2
  · show σ 1 0 4 + 1 = nI (e + 1)
    rw [a2, nI_1]
  · show (if e % 64 + 1 < 64 then nI (e % 64 + 1) else 0) = nI ((e + 1) % 64)
    by_cases h1 : e % 64 + 1 < 64
    · rw [if_pos h1, show (e + 1) % 64 = e % 64 + 1 by omega]
    · rw [if_neg h1, show (e + 1) % 64 = 0 by omega]; rfl
  · show (if 64 < σ 1 0 5 + 1 then 64 else σ 1 0 5 + 1) = nI (if e + 1 < 64 then e + 1 else 64)
    rw [a4, nI_1]
    by_cases h1 : e < 64
    · have h64 : ¬ (64 : Int32) < nI (e + 1) := fun h => absurd ((nI_ltI (a := 64) (b := e + 1) (by decide) (by omega)).mp h) (by omega)
      rw [if_pos h1, if_neg h64]
      by_cases h2 : e + 1 < 64
      · rw [if_pos h2]
      · rw [if_neg h2, show e + 1 = 64 by omega]
    · rw [if_neg h1, if_neg (show ¬ e + 1 < 64 by omega), if_pos (by decide)]; rfl
end NOTE
