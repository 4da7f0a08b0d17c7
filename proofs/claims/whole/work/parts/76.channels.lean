/-! The calls that send and receive. -/
theorem a7 : ∀ n, n < 16 → nI n &&& 7 = nI (n % 8) := by decide +kernel
section CHAN
variable {d e b p q K ch : Nat} {σ μ σ0 μ0 σ' μ' : mSg} {x v now : Int32}
theorem KI.chan (h : KI b σ0 μ0 σ μ) (hch : ch < 8) (hR : Rel σ0 μ0 σ' μ') (hc : ∀ k i j, ¬ (k = 0 ∧ i = ch) → ¬ (k = 11 ∧ i = 2 + ch) → σ' k i j = σ k i j) (hm : ∀ k i j, ¬ (k = 14 ∧ i = 4 ∧ 8 * ch ≤ j ∧ j < 8 * ch + 8) → ¬ (k = 11 ∧ (i = 15 ∨ i = 16) ∧ j = ch) → μ' k i j = μ k i j) (hQ : QC σ' μ' ch) : KI b σ0 μ0 σ' μ' := by
  obtain ⟨⟨h1, h2, h3⟩, ⟨c1, c2, c3, c4, c5⟩, h5⟩ := h
  have hk : ∀ k i j, k ≠ 0 → k ≠ 11 → σ' k i j = σ k i j := fun k i j a b => hc k i j (fun c => a c.1) (fun c => b c.1)
  refine ⟨⟨hR, fun K hK => ?_, og_eq h3 (fun k => hk 5 k 7 (by decide) (by decide)) (fun k => hk 5 k 12 (by decide) (by decide)) (fun k => hk 4 k 6 (by decide) (by decide)) (fun k => hm 13 41 k (by omega) (by omega)) (hm 7 0 27 (by omega) (by omega))⟩, ⟨?_, ?_, ?_, ?_, ?_⟩, h5.frame (fun j => hk 1 0 j (by decide) (by decide)) (Nat.le_refl _)⟩
  · obtain ⟨a1, a2, a3, a4⟩ := h2 K hK
    unfold PI
    rw [hk 5 K 7 (by decide) (by decide), hk 5 K 8 (by decide) (by decide), hk 5 K 5 (by decide) (by decide), hk 5 K 11 (by decide) (by decide), hk 5 K 10 (by decide) (by decide)]
    exact ⟨a1, a2, a3, a4⟩
  · obtain ⟨g1, g2, g3, n, g4, g5⟩ := c1
    refine ⟨fun p hp => ?_, fun p q hp hq => ?_, fun p e hp he => ?_, n, g4, ?_⟩
    · rw [hk 4 p 0 (by decide) (by decide), hk 4 p 5 (by decide) (by decide)]; exact g1 p hp
    · rw [hk 5 _ 0 (by decide) (by decide)]; exact g2 p q hp hq
    · rw [hk 10 _ e (by decide) (by decide)]; exact g3 p e hp he
    · rw [hk 6 0 4 (by decide) (by decide)]; exact g5
  · refine ⟨fun p s hp hs => ?_, fun h7 p s hp hs => ?_⟩
    · rw [hk 10 _ s (by decide) (by decide)]; exact c2.1 p s hp hs
    · rw [hk 6 0 7 (by decide) (by decide)] at h7
      rw [hk 10 _ s (by decide) (by decide)]; exact c2.2 h7 p s hp hs
  · intro p j i hp hj hi
    rw [hm 30 0 _ (by omega) (by omega), hk 15 p j (by decide) (by decide)]; exact c3 p j i hp hj hi
  · intro ch' hch'
    by_cases ee : ch' = ch
    · subst ee; exact hQ
    · obtain ⟨hd, n, g1, g2, g3, g4, g5, g6, g7⟩ := c4 ch' hch'
      have h0 : ∀ j, σ' 0 ch' j = σ 0 ch' j := fun j => hc 0 ch' j (fun c => ee c.2) (by omega)
      refine ⟨hd, n, g1, g2, by rw [h0]; exact g3, by rw [h0]; exact g4, fun j hj => ?_, ?_, ?_⟩
      · rw [hm 14 4 _ (by omega) (by omega), hc 11 (2 + ch') _ (by omega) (by omega)]; exact g5 j hj
      · rw [h0, h0, hm 11 16 ch' (by omega) (by omega)]; exact g6
      · rw [h0, h0, h0]; exact g7
  · obtain ⟨W, T, c, s, ln, g1, g2, g3, g4, g5, g6, g7, g8, g9, g10⟩ := c5
    refine ⟨W, T, c, s, ln, g1, g2, by rw [hk 2 0 2 (by decide) (by decide)]; exact g3, by rw [hk 6 0 5 (by decide) (by decide)]; exact g4, by rw [hk 2 0 3 (by decide) (by decide)]; exact g5, by rw [hk 2 0 4 (by decide) (by decide)]; exact g6, by rw [hm 7 0 4 (by omega) (by omega)]; exact g7, fun j hj => ?_, ?_, ?_⟩
    · rw [hc 11 1 j (by omega) (by omega), hc 11 0 j (by omega) (by omega)]; exact g8 j hj
    · rw [hk 6 0 7 (by decide) (by decide)]; exact g9
    · rw [hk 6 0 7 (by decide) (by decide)]; exact g10
theorem lk_0 {j : Nat} (hch : ch < 8) {r : Nat × Nat × Nat} (h : (match j with
    | 1 => some (32, 0, ch)
    | 2 => some (11, 12, ch)
    | 3 => some (11, 13, ch)
    | 4 => some (11, 14, ch)
    | 6 => some (11, 15, ch)
    | _ => none) = some r) : lk 0 ch j = some r := by
  unfold lk
  simp only [hch, if_true]
  exact h
theorem S7 {h k : Nat} (hh : σ 0 ch 5 = nI h) (hk : h + k < 16) : Sp (d + 1) 7 [.inr (some (0, ch)), .inl (nI k)] σ (rI (nI ((h + k) % 8))) σ := by
  have t := P7_1 (d := d) (r0 := ch) (σ := σ) (x1 := nI k)
  rw [hh, nI_add, a7 _ hk] at t
  exact t
/-- which channel -/
theorem chan_cases (h : KI b σ0 μ0 σ μ) : (∃ c, c < 8 ∧ x = nI c ∧ (∀ d, Sp (d + 1) 91 [.inr (some (6, 0)), .inl x] σ (.inl (some (.inr (some (0, c))))) σ) ∧ in01 x (μ 7 0 28) = 1) ∨ ((∀ d, Sp (d + 1) 91 [.inr (some (6, 0)), .inl x] σ (.inl (some (.inr none))) σ) ∧ in01 x (μ 7 0 28) = 0) := by
  obtain ⟨n, hn, hc⟩ := h.2.1.1.2.2.2
  have hm : μ 7 0 28 = nI n := (h.1.1.get (k := 6) (i := 0) (j := 4) rfl).trans hc
  rw [hm]
  by_cases h0 : x < 0
  · exact Or.inr ⟨fun d => P91_1 h0, in01_0 (fun c => c.1 h0)⟩
  · by_cases h1 : x < nI n
    · obtain ⟨r, hr, rfl⟩ := of_lt (n := n) (by omega) h0 h1
      refine Or.inl ⟨r, by omega, rfl, fun d => ?_, in01_1 h0 h1⟩
      have t := P91_2 (d := d) (σ := σ) (x1 := nI r) h0 (by rw [hc]; exact h1) (nI_in (show r < 8 by omega) (by decide))
      rw [nI_clamp (by omega)] at t
      exact t
    · exact Or.inr ⟨fun d => P91_3 h0 (by rw [hc]; exact h1), in01_0 (fun c => h1 c.2)⟩
theorem sv8 (h : KI b σ0 μ0 σ μ) (hp : p < 4) : SV b σ0 μ0 σ μ K (Sp (d + 3) 97 [.inr (some (6, 0)), .inr (some (4, p)), .inl x, .inl v] σ) (Sp (e + 2) 127 [.inr (some (7, 0)), .inl (nI p), .inl x, .inl v] μ) := by
  have hnum := (h.2.1.1.1 p hp).1
  have ht : μ 7 0 2 = σ 6 0 5 := h.time
  rcases chan_cases (x := x) h with ⟨c, hc, rfl, s91, hin⟩ | ⟨s91, hin⟩
  · have ec := nI_clamp (n := c) (by omega)
    have hcb : ¬ (nI c < 0 ∨ 8 ≤ (nI c).toNatClampNeg) := nI_in hc (by decide)
    have ef : μ 11 12 c = σ 0 c 2 := h.1.1.get (lk_0 hc rfl)
    have eq : μ 32 0 c = σ 0 c 1 := h.1.1.get (lk_0 hc rfl)
    have el : μ 11 14 c = σ 0 c 4 := h.1.1.get (lk_0 hc rfl)
    have en : μ 11 15 c = σ 0 c 6 := h.1.1.get (lk_0 hc rfl)
    by_cases hf : σ 0 c 2 = nI p
    · obtain ⟨hd, n, g1, g2, g3, g4, g5, g6, g7⟩ := h.2.1.2.2.2.1 c hc
      have hi : isM 11 (2 + c) = false := decide_eq_false (by omega)
      have hl11 : ∀ j, lk 11 (2 + c) j = none := fun j => by
        show (if 2 + c < 2 ∧ j < 8 then some (11, 10 + (2 + c), j) else none) = none
        rw [if_neg (by omega)]
      have e80 : (8 * nI c).toNatClampNeg = 8 * c := by rw [show (8 : Int32) * nI c = nI (8 * c) from nI_mul 8 c]; exact nI_clamp (by omega)
      by_cases hq : σ 0 c 1 = 0
      · -- a sample
        obtain ⟨k1, k2, k3, k4⟩ := g6 hq
        subst k1
        have t1 : Sp (d + 3) 97 [.inr (some (6, 0)), .inr (some (4, p)), .inl (nI c), .inl v] σ (rI 0) (mq_up (mq_up (mq_up σ 11 (2 + c) 0 v) 0 c 6 1) 0 c 7 (σ 6 0 5)) := P97_2 (s91 _) (by rw [hf, hnum]) (P3_1 hq)
        have t2 := P127_2 (d := e + 1) (σ := μ) (x1 := nI p) (x2 := nI c) (x3 := v) S101 (by rw [hin]; decide) hcb (by rw [ec, ef]; exact hf) (by rw [ec, eq]; exact hq) (by rw [show (8 : Int32) * nI c = nI (8 * c) from nI_mul 8 c]; exact nI_in (by omega) (by decide))
        rw [e80, ec, ht] at t2
        have hR : Rel σ0 μ0 (mq_up (mq_up (mq_up σ 11 (2 + c) 0 v) 0 c 6 1) 0 c 7 (σ 6 0 5)) (mq_up (mq_up (mq_up μ 14 4 (8 * c) v) 11 15 c 1) 11 16 c (σ 6 0 5)) :=
          ((((h.1.1.left (hl11 0) hi v).right (k' := 14) (i' := 4) (j' := 8 * c) rfl rfl v).both (lk_0 hc rfl) 1).left (k := 0) (i := c) (j := 7) (by simp [lk]) rfl _).right (k' := 11) (i' := 16) (j' := c) rfl rfl _
        refine ⟨0, _, _, t1, t2, (h.chan hc hR (fun k i j a b => ?_) (fun k i j a b => ?_) ?_).mono (by omega), rfl, rfl, rfl, fun _ => rfl⟩
        · rw [up_if, if_neg (fun z => a ⟨z.1, z.2.1⟩), up_if, if_neg (fun z => a ⟨z.1, z.2.1⟩), up_if, if_neg (fun z => b ⟨z.1, z.2.1⟩)]
        · rw [up_if, if_neg (fun z => b ⟨z.1, Or.inr z.2.1, z.2.2⟩), up_if, if_neg (fun z => b ⟨z.1, Or.inl z.2.1, z.2.2⟩), up_if, if_neg (fun z => a ⟨z.1, z.2.1, by omega, by omega⟩)]
        · refine ⟨0, 1, by omega, by omega, ?_, up_eq _ _ _ _ _ |> (fun t => by rw [up_nj (by decide)]; exact t), fun j hj => ?_, fun _ => ⟨rfl, by omega, fun z => by omega, fun _ => ?_⟩, fun z => absurd ?_ z⟩
          · rw [up_nj (by decide), up_nj (by decide)]; exact g3
          · have ej : j = 0 := by omega
            subst ej
            show mq_up μ 14 4 (8 * c) v 14 4 (8 * c) = mq_up σ 11 (2 + c) 0 v 11 (2 + c) 0
            rw [up_eq, up_eq]
          · rw [up_eq, up_eq]
          · rw [up_nj (by decide), up_nj (by decide)]; exact hq
      · -- a queue
        obtain ⟨k1, l, k2, k3, k4⟩ := g7 hq
        by_cases hln : n = l
        · subst hln
          refine sv_same h 2 (P97_2 (s91 _) (by rw [hf, hnum]) (P3_3 hq (by rw [g4, k3]; exact fun z => Int32.lt_irrefl z))) (P127_3 S101 (by rw [hin]; decide) hcb (by rw [ec, ef]; exact hf) (by rw [ec, eq]; exact hq) (by rw [ec, en, el, g4, k3]))
        · have s7 := S7 (d := d) (σ := σ) (ch := c) (h := hd) (k := n) g3 (by omega)
          have hm8 : (hd + n) % 8 < 8 := Nat.mod_lt _ (by decide)
          have em8 := nI_clamp (n := (hd + n) % 8) (by omega)
          have t3 : Sp (d + 2) 3 [.inr (some (0, c)), .inl v, .inl (σ 6 0 5)] σ (rI 0) (mq_up (mq_up σ 11 (2 + c) ((hd + n) % 8) v) 0 c 6 (nI (n + 1))) := by
            have t := P3_2 (d := d + 1) (r0 := c) (σ := σ) (x1 := v) (x2 := σ 6 0 5) hq (by rw [g4, k3]; exact (nI_ltI (by omega) (by omega)).mpr (by omega)) (by rw [g4]; exact s7) (nI_in hm8 (by decide))
            rw [em8, g4, nI_1] at t
            exact t
          have t1 : Sp (d + 3) 97 [.inr (some (6, 0)), .inr (some (4, p)), .inl (nI c), .inl v] σ (rI 0) (mq_up (mq_up σ 11 (2 + c) ((hd + n) % 8) v) 0 c 6 (nI (n + 1))) := P97_2 (s91 _) (by rw [hf, hnum]) t3
          have e8n : (8 * nI c + μ 11 15 (nI c).toNatClampNeg).toNatClampNeg = 8 * c + n := by rw [ec, en, g4, ix8]; exact nI_clamp (by omega)
          have t2 := P127_4 (d := e + 1) (σ := μ) (x1 := nI p) (x2 := nI c) (x3 := v) S101 (by rw [hin]; decide) hcb (by rw [ec, ef]; exact hf) (by rw [ec, eq]; exact hq) (by rw [ec, en, el, g4, k3]; exact fun z => hln ((nI_eq (by omega) (by omega)).mp z)) (by rw [ec, en, g4, ix8]; exact nI_in (by omega) (by decide))
          rw [e8n, ec, en, g4, nI_1] at t2
          have hR : Rel σ0 μ0 (mq_up (mq_up σ 11 (2 + c) ((hd + n) % 8) v) 0 c 6 (nI (n + 1))) (mq_up (mq_up μ 14 4 (8 * c + n) v) 11 15 c (nI (n + 1))) :=
            ((h.1.1.left (hl11 _) hi v).right (k' := 14) (i' := 4) (j' := 8 * c + n) rfl rfl v).both (lk_0 hc rfl) _
          refine ⟨0, _, _, t1, t2, (h.chan hc hR (fun k i j a b => ?_) (fun k i j a b => ?_) ?_).mono (by omega), rfl, rfl, rfl, fun _ => rfl⟩
          · rw [up_if, if_neg (fun z => a ⟨z.1, z.2.1⟩), up_if, if_neg (fun z => b ⟨z.1, z.2.1⟩)]
          · rw [up_if, if_neg (fun z => b ⟨z.1, Or.inl z.2.1, z.2.2⟩), up_if, if_neg (fun z => a ⟨z.1, z.2.1, by omega, by omega⟩)]
          · refine ⟨hd, n + 1, g1, by omega, by rw [up_nj (by decide)]; exact g3, up_eq _ _ _ _ _, fun j hj => ?_, fun z => absurd ?_ hq, fun _ => ⟨by rw [up_nj (by decide)]; exact k1, l, k2, by rw [up_nj (by decide)]; exact k3, by omega⟩⟩
            · show mq_up μ 14 4 (8 * c + n) v 14 4 (8 * c + j) = mq_up σ 11 (2 + c) ((hd + n) % 8) v 11 (2 + c) ((hd + j) % 8)
              by_cases ee : j = n
              · rw [ee, up_eq, up_eq]
              · rw [up_nj (by omega), up_nj (by omega)]
                exact g5 j (by omega)
            · rw [up_nj (by decide)] at z; exact z
    · exact sv_same h 1 (P97_3 (s91 _) (by rw [hnum]; exact hf)) (P127_5 S101 (by rw [hin]; decide) hcb (by rw [ec, ef]; exact hf))
  · exact sv_same h 1 (P97_1 (s91 _)) (P127_1 S101 hin)
/-- the reference's queue moves on -/
def mSh (μ : mSg) (a : Nat) : Nat → mSg
  | 0 => μ
  | k + 1 => mq_up (mSh μ a k) 14 4 (a + k) (μ 14 4 (a + k + 1))
theorem mSh_at (a : Nat) : ∀ m j, mSh μ a m 14 4 j = if a ≤ j ∧ j < a + m then μ 14 4 (j + 1) else μ 14 4 j
  | 0, j => by rw [if_neg (by omega)]; rfl
  | m + 1, j => by
    show mq_up (mSh μ a m) 14 4 (a + m) (μ 14 4 (a + m + 1)) 14 4 j = _
    by_cases ee : j = a + m
    · rw [ee, up_eq, if_pos (by omega)]
    · rw [up_nj ee, mSh_at a m j]
      by_cases h2 : a ≤ j ∧ j < a + m
      · rw [if_pos h2, if_pos (by omega)]
      · rw [if_neg h2, if_neg (by omega)]
theorem mSh_o (a : Nat) : ∀ m k i j, ¬ (k = 14 ∧ i = 4 ∧ a ≤ j ∧ j < a + m) → mSh μ a m k i j = μ k i j
  | 0, _, _, _, _ => rfl
  | m + 1, k, i, j, h => by
    show mq_up (mSh μ a m) 14 4 (a + m) (μ 14 4 (a + m + 1)) k i j = _
    rw [up_if, if_neg (by omega)]
    exact mSh_o a m k i j (by omega)
theorem rel_mSh (h : Rel σ0 μ0 σ μ) (a : Nat) : ∀ m, Rel σ0 μ0 σ (mSh μ a m)
  | 0 => h
  | m + 1 => (rel_mSh h a m).right (k' := 14) (i' := 4) rfl rfl _
theorem L128 {c N : Nat} (hc : c < 8) (hN : N < 8) (hl : μ 11 15 c = nI N) {x1 x2 : Int32} {r : mRz} {ω : mSg} : ∀ m k, k + m = N → Rn d 128 103 [(0, .inr (some (7, 0))), (1, .inl x1), (2, .inl x2), (3, .inl (nI c)), (4, .inl (nI N))] [] (mSh μ (8 * c) N) r ω → Rn d 128 103 [(0, .inr (some (7, 0))), (1, .inl x1), (2, .inl x2), (3, .inl (nI c)), (4, .inl (nI k))] [] (mSh μ (8 * c) k) r ω
  | 0, k, h, hz => by
    have ee : k = N := by omega
    rw [ee]; exact hz
  | m + 1, k, h, hz => by
    have ih := L128 hc hN hl m (k + 1) (by omega) hz
    have ec := nI_clamp (n := c) (by omega)
    have hl' : mSh μ (8 * c) k 11 15 c = nI N := (mSh_o _ _ _ _ _ (by omega)).trans hl
    refine P128_103_1 (nI_in hc (by decide)) (by rw [ec, hl']; exact (nI_ltI (by omega) (by omega)).mpr (by omega)) (by rw [ix8, nI_1]; exact nI_in (by omega) (by decide)) (by rw [ix8]; exact nI_in (by omega) (by decide)) ?_
    rw [ix8, nI_1, nI_1, nI_clamp (by omega), nI_clamp (by omega), mSh_at, if_neg (by omega)]
    exact ih
theorem sv9 (h : KI b σ0 μ0 σ μ) (hp : p < 4) (hK : K < 32) : SV b σ0 μ0 σ μ K (Sp (d + 3) 98 [.inr (some (6, 0)), .inr (some (4, p)), .inl x, .inr (some (5, K))] σ) (Sp (e + 2) 128 [.inr (some (7, 0)), .inl (nI p), .inl (nI K), .inl x] μ) := by
  have hnum := (h.2.1.1.1 p hp).1
  rcases chan_cases (x := x) h with ⟨c, hc, rfl, s91, hin⟩ | ⟨s91, hin⟩
  · have ec := nI_clamp (n := c) (by omega)
    have hcb : ¬ (nI c < 0 ∨ 8 ≤ (nI c).toNatClampNeg) := nI_in hc (by decide)
    have et : μ 11 13 c = σ 0 c 3 := h.1.1.get (lk_0 hc rfl)
    have en : μ 11 15 c = σ 0 c 6 := h.1.1.get (lk_0 hc rfl)
    have eq : μ 32 0 c = σ 0 c 1 := h.1.1.get (lk_0 hc rfl)
    have el : μ 11 14 c = σ 0 c 4 := h.1.1.get (lk_0 hc rfl)
    have ht : μ 7 0 2 = σ 6 0 5 := h.time
    obtain ⟨hd, n, g1, g2, g3, g4, g5, g6, g7⟩ := h.2.1.2.2.2.1 c hc
    by_cases hf : σ 0 c 3 = nI p
    · by_cases hn0 : n = 0
      · subst hn0
        exact sv_same h 2 (P98_2 (s91 _) (by rw [hf, hnum]) (by rw [g4]; rfl)) (P128_2 S101 (by rw [hin]; decide) hcb (by rw [ec, et]; exact hf) (by rw [ec, en, g4]; rfl))
      · have e80 : (8 * nI c).toNatClampNeg = 8 * c := by rw [show (8 : Int32) * nI c = nI (8 * c) from nI_mul 8 c]; exact nI_clamp (by omega)
        have h8b : ¬ (8 * nI c < 0 ∨ 64 ≤ (8 * nI c).toNatClampNeg) := by rw [show (8 : Int32) * nI c = nI (8 * c) from nI_mul 8 c]; exact nI_in (by omega) (by decide)
        have e11 : (32 * nI K + 11).toNatClampNeg = 32 * K + 11 := by rw [show (11 : Int32) = nI 11 from rfl, ix32]; exact nI_clamp (by omega)
        have h11b : ¬ (32 * nI K + 11 < 0 ∨ 1024 ≤ (32 * nI K + 11).toNatClampNeg) := by rw [show (11 : Int32) = nI 11 from rfl, ix32]; exact nI_in (by omega) (by decide)
        have hne : ¬ σ 0 c 6 = 0 := by rw [g4]; exact nI_ne0 (by omega) (by omega)
        have hw0 : μ 14 4 (8 * c) = σ 11 (2 + c) (hd % 8) := g5 0 (by omega)
        have s5 : Sp (d + 2) 5 [.inr (some (0, c)), .inl 0] σ (rI (σ 11 (2 + c) (hd % 8))) σ := by
          have s7 := S7 (d := d) (σ := σ) (ch := c) (h := hd) (k := 0) g3 (by omega)
          have t := P5_2 (d := d + 1) (r0 := c) (σ := σ) (x1 := 0) (by decide) (by rw [g4]; exact (nI_ltI (a := 0) (by decide) (by omega)).mpr (by omega)) s7 (nI_in (Nat.mod_lt _ (by decide)) (by decide))
          rw [nI_clamp (by have := Nat.mod_lt (hd + 0) (show 0 < 8 by decide); omega)] at t
          exact t
        have h2 := h.reg (K := K) hK (r := 11) (by decide) (σ 11 (2 + c) (hd % 8))
        have s44 : Sp (d + 2) 44 [.inr (some (5, K)), .inl 11, .inl (σ 11 (2 + c) (hd % 8))] σ (.inl none) (mq_up σ 13 K 11 (σ 11 (2 + c) (hd % 8))) := S44 (d := d + 1) (K := K) (r := 11) (v := σ 11 (2 + c) (hd % 8)) (by decide)
        by_cases hq : σ 0 c 1 = 0
        · obtain ⟨k1, k2, k3, k4⟩ := g6 hq
          have e16 : μ 11 16 c = σ 0 c 7 := k4 (by omega)
          by_cases hl : σ 0 c 4 < σ 6 0 5 - σ 0 c 7
          · have t2 := P128_3 (d := e + 1) (σ := μ) (x1 := nI p) (x2 := nI K) (x3 := nI c) S101 (by rw [hin]; decide) hcb (by rw [ec, et]; exact hf) (by rw [ec, en]; exact hne) h8b h11b (by rw [ec, eq]; exact hq) (by rw [ec, el, ht, e16]; exact hl)
            rw [e11, e80, hw0] at t2
            exact ⟨3, _, _, P98_3 (s91 _) (by rw [hf, hnum]) hne s5 s44 (P4_1 hq hl), t2, h2.mono (by omega), rfl, rfl, rfl, fun _ => rfl⟩
          · have t2 := P128_4 (d := e + 1) (σ := μ) (x1 := nI p) (x2 := nI K) (x3 := nI c) S101 (by rw [hin]; decide) hcb (by rw [ec, et]; exact hf) (by rw [ec, en]; exact hne) h8b h11b (by rw [ec, eq]; exact hq) (by rw [ec, el, ht, e16]; exact hl)
            rw [e11, e80, hw0] at t2
            exact ⟨0, _, _, P98_3 (s91 _) (by rw [hf, hnum]) hne s5 s44 (P4_2 hq hl), t2, h2.mono (by omega), rfl, rfl, rfl, fun _ => rfl⟩
        · obtain ⟨k1, l, k2, k3, k4⟩ := g7 hq
          obtain ⟨m, rfl⟩ : ∃ m, n = m + 1 := ⟨n - 1, by omega⟩
          generalize hσr : mq_up σ 13 K 11 (σ 11 (2 + c) (hd % 8)) = σr at h2 s44
          generalize hμr : mq_up μ 16 0 (32 * K + 11) (σ 11 (2 + c) (hd % 8)) = μr at h2
          have f5 : σr 0 c 5 = nI hd := by rw [← hσr]; exact g3
          have f6 : σr 0 c 6 = nI (m + 1) := by rw [← hσr]; exact g4
          have s4 : Sp (d + 2) 4 [.inr (some (0, c)), .inl (σr 6 0 5)] σr (rI 0) (mq_up (mq_up σr 0 c 5 (nI ((hd + 1) % 8))) 0 c 6 (nI m)) := by
            have t := P4_3 (d := d + 1) (r0 := c) (σ := σr) (x1 := σr 6 0 5) (by rw [← hσr]; exact hq) (S7 (d := d) (h := hd) (k := 1) f5 (by omega))
            rw [up_nj (by decide), f6, nI_pred] at t
            exact t
          have hl15 : mq_up μr 11 15 c (nI m) 11 15 c = nI m := up_eq _ _ _ _ _
          have t2 : Sp (e + 2) 128 [.inr (some (7, 0)), .inl (nI p), .inl (nI K), .inl (nI c)] μ (rI 0) (mSh (mq_up μr 11 15 c (nI m)) (8 * c) m) := by
            refine P128_5 S101 (by rw [hin]; decide) hcb (by rw [ec, et]; exact hf) (by rw [ec, en]; exact hne) h8b h11b (by rw [ec, eq]; exact hq) ?_
            rw [e11, e80, hw0, ec, en, g4, nI_pred, hμr]
            refine L128 (d := e + 1) (N := m) hc (by omega) hl15 m 0 (by omega) (P128_103_2 hcb ?_)
            rw [ec, mSh_o _ _ _ _ _ (by omega), hl15]
            exact fun z => Int32.lt_irrefl z
          have hR : Rel σ0 μ0 (mq_up (mq_up σr 0 c 5 (nI ((hd + 1) % 8))) 0 c 6 (nI m)) (mSh (mq_up μr 11 15 c (nI m)) (8 * c) m) := rel_mSh ((h2.1.1.left (k := 0) (i := c) (j := 5) (by simp [lk]) rfl _).both (lk_0 hc rfl) _) _ _
          refine ⟨0, _, _, P98_3 (s91 _) (by rw [hf, hnum]) hne s5 s44 s4, t2, (h2.chan hc hR (fun k i j a b => ?_) (fun k i j a b => ?_) ?_).mono (by omega), ?_, ?_, ?_, fun j => ?_⟩
          · rw [up_if, if_neg (fun z => a ⟨z.1, z.2.1⟩), up_if, if_neg (fun z => a ⟨z.1, z.2.1⟩)]
          · rw [mSh_o _ _ _ _ _ (by omega), up_if, if_neg (fun z => b ⟨z.1, Or.inl z.2.1, z.2.2⟩)]
          · refine ⟨(hd + 1) % 8, m, Nat.mod_lt _ (by decide), by omega, by rw [up_nj (by decide), up_eq], up_eq _ _ _ _ _, fun j hj => ?_, fun z => absurd ?_ hq, fun _ => ⟨?_, l, k2, ?_, by omega⟩⟩
            · rw [mSh_at, if_pos (by omega)]
              have w := g5 (j + 1) (by omega)
              have e1 : mq_up μr 11 15 c (nI m) 14 4 (8 * c + j + 1) = μ 14 4 (8 * c + (j + 1)) := by rw [← hμr]; rfl
              have e2 : mq_up (mq_up σr 0 c 5 (nI ((hd + 1) % 8))) 0 c 6 (nI m) 11 (2 + c) (((hd + 1) % 8 + j) % 8) = σ 11 (2 + c) (((hd + 1) % 8 + j) % 8) := by rw [← hσr]; rfl
              rw [e1, e2, w]
              congr 1
              omega
            · rw [up_nj (by decide), up_nj (by decide), ← hσr] at z; exact z
            · rw [up_nj (by decide), up_nj (by decide), ← hσr]; exact k1
            · rw [up_nj (by decide), up_nj (by decide), ← hσr]; exact k3
          · rw [up_nk (by decide), up_nk (by decide), ← hσr]; rfl
          · rw [mSh_o _ _ _ _ _ (by omega), up_nk (by decide), ← hμr]; rfl
          · rw [mSh_o _ _ _ _ _ (by omega), up_nk (by decide), ← hμr]; rfl
          · rw [up_nk (by decide), up_nk (by decide), ← hσr]; rfl
    · exact sv_same h 1 (P98_4 (s91 _) (by rw [hnum]; exact hf)) (P128_6 S101 (by rw [hin]; decide) hcb (by rw [ec, et]; exact hf))
  · exact sv_same h 1 (P98_1 (s91 _)) (P128_1 S101 hin)
end CHAN
