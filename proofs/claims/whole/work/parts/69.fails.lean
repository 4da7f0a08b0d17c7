/-! An error is dealt with; processes that are late. -/
section FAILS
variable {d b m p q K N : Nat} {σ μ σ0 μ0 : mSg} {now a x : Int32}
theorem rel_5 (h : PK b σ0 μ0 σ μ) {j f : Nat} (hK : K < 32) (hf : lkF j = f) (h0 : f ≠ 0) (hj : j = 3 ∨ j = 6 ∨ j = 9 ∨ j = 13) (v : Int32) : PK b σ0 μ0 (mq_up σ 5 K j v) (mq_up μ 13 f K v) := by
  refine ⟨h.1.both (lk_p' hK j f hf h0) v, fun K' hK' => ?_, og_eq h.2.2 (fun k => up_nj (by omega)) (fun k => up_nj (by omega)) (fun k => up_nk (by decide)) (fun k => up_ni ?_) (up_nk (by decide))⟩
  · obtain ⟨a1, a2, a3, a4⟩ := h.2.1 K' hK'
    unfold PI
    rw [up_nj (j' := 7) (by omega), up_nj (j' := 8) (by omega), up_nj (j' := 5) (by omega), up_nj (j' := 11) (by omega), up_nj (j' := 10) (by omega)]
    exact ⟨a1, a2, a3, a4⟩
  · rcases hj with rfl | rfl | rfl | rfl <;> (subst hf; decide)
theorem rfm_zr {k i a n : Nat} (hk : k ≠ 30 ∧ k ≠ 14 ∧ k ≠ 11 ∧ k ≠ 7) : RFm μ (mq_zr μ k i a n) := fun k' i' j' h => by
  unfold mq_zr
  rw [if_neg]
  rintro ⟨rfl, -⟩
  unfold okRm at h
  split at h <;> simp_all
theorem RI.zsem (h : RI b σ μ) (hp : p < 4) : RI b (mq_zr σ 10 (2 * p) 0 4) μ := by
  have hz : ∀ k i j, (k ≠ 10 ∨ i ≠ 2 * p) → mq_zr σ 10 (2 * p) 0 4 k i j = σ k i j := fun k i j hk => by
    unfold mq_zr
    rw [if_neg]
    rintro ⟨h1, h2, -⟩
    rcases hk with hk | hk
    · exact hk h1
    · exact hk h2
  have h0 : ∀ s, s < 4 → mq_zr σ 10 (2 * p) 0 4 10 (2 * p) s = 0 := fun s hs => by
    unfold mq_zr
    rw [if_pos ⟨rfl, rfl, by omega, by omega⟩]
  obtain ⟨h1, h2, h3, h4, h5⟩ := h
  refine ⟨?_, ⟨fun p' s hp' hs => ?_, fun h7 p' s hp' hs => ?_⟩, ?_, ?_, ?_⟩
  · obtain ⟨g1, g2, g3, n, g4, g5⟩ := h1
    refine ⟨fun p' hp' => ?_, fun p' q hp' hq => ?_, fun p' e hp' he => ?_, n, g4, ?_⟩
    · rw [hz 4 _ _ (Or.inl (by decide)), hz 4 _ _ (Or.inl (by decide))]; exact g1 p' hp'
    · rw [hz 5 _ _ (Or.inl (by decide))]; exact g2 p' q hp' hq
    · rw [hz 10 _ _ (Or.inr (by omega))]; exact g3 p' e hp' he
    · rw [hz 6 _ _ (Or.inl (by decide))]; exact g5
  · by_cases e : p' = p
    · subst e
      exact ⟨0, by omega, h0 s hs⟩
    · rw [hz 10 _ _ (Or.inr (by omega))]; exact h2.1 p' s hp' hs
  · by_cases e : p' = p
    · subst e
      exact h0 s hs
    · rw [hz 6 _ _ (Or.inl (by decide))] at h7
      rw [hz 10 _ _ (Or.inr (by omega))]; exact h2.2 h7 p' s hp' hs
  · exact h3
  · exact h4
  · exact h5
/-- what both do with an error of kind k of process 8 p + q -/
theorem fails_both (h : KI b σ0 μ0 σ μ) (hb : b < 2 ^ 29) (hp : p < 4) (hq : q < 8) {k : Nat} (hk : k < 4) : ∃ r σ1 μ1, (∀ d, Sp (d + 4) 94 [.inr (some (6, 0)), .inr (some (4, p)), .inr (some (5, 8 * p + q)), .inl (nI k)] σ (.inl (some (.inl r))) σ1) ∧ (∀ d, Sp (d + 4) 106 [.inr (some (7, 0)), .inl (nI p), .inl (nI q), .inl (nI k)] μ (.inl (some (.inl r))) μ1) ∧ KI (b + 9) σ0 μ0 σ1 μ1 ∧ (∀ j, σ1 6 0 j = σ 6 0 j) ∧ (∀ p', σ1 4 p' 5 = σ 4 p' 5) := by
  obtain ⟨m, nx, kp, hm, hs9, hrem, hK⟩ := note_both h (by omega)
  have hK := hK (σ 6 0 5) (nI p) (nI q) (nI k)
  have e9 : cNote σ m (σ 6 0 5) (σ 4 p 0) (σ 5 (8 * p + q) 0) (nI k) nx kp = cNote σ m (σ 6 0 5) (nI p) (nI q) (nI k) nx kp := by rw [(h.2.1.1.1 p hp).1, h.2.1.1.2.1 p q hp hq]
  have hs9 : ∀ d, Sp (d + 1) 9 [.inr (some (1, 0)), .inl (σ 6 0 5), .inl (σ 4 p 0), .inl (σ 5 (8 * p + q) 0), .inl (nI k)] σ (.inl none) (cNote σ m (σ 6 0 5) (nI p) (nI q) (nI k) nx kp) := fun d => by
    rw [← e9]
    exact hs9 d _ _ _ _
  obtain ⟨N, hN, hc⟩ := h.cnt hp
  obtain ⟨a, ha, hact⟩ := h.2.1.1.2.2.1 p k hp hk
  have hact' : μ 12 0 (4 * p + k) = nI a := (h.1.1.get (lk_a hp hk)).trans hact
  have ht : μ 7 0 2 = σ 6 0 5 := h.time
  have ek := nI_clamp (n := k) (by omega)
  have hs25 : ∀ d, Sp (d + 1) 25 [.inr (some (4, p)), .inl (nI k)] (cNote σ m (σ 6 0 5) (nI p) (nI q) (nI k) nx kp) (.inl (some (.inl (nI a)))) (cNote σ m (σ 6 0 5) (nI p) (nI q) (nI k) nx kp) := fun d => by
    have h2 := P25_2 (d := d) (r0 := p) (σ := cNote σ m (σ 6 0 5) (nI p) (nI q) (nI k) nx kp) (x1 := nI k) (nI_pos (by omega)) ((nI_ltI (by omega) (by decide)).mpr (show k < 4 by omega)) (nI_in hk (by decide))
    rw [ek] at h2
    have e : cNote σ m (σ 6 0 5) (nI p) (nI q) (nI k) nx kp 10 (2 * p + 1) k = nI a := hact
    rw [e] at h2
    exact h2
  have hmb : ¬ (μ 7 0 36 - μ 7 0 36 / 64 * 64 < 0 ∨ 64 ≤ (μ 7 0 36 - μ 7 0 36 / 64 * 64).toNatClampNeg) := by rw [hrem]; exact nI_in hm (by decide)
  have em : (μ 7 0 36 - μ 7 0 36 / 64 * 64).toNatClampNeg = m := by rw [hrem]; exact nI_clamp (by omega)
  have hab : ¬ (4 * nI p + nI k < 0 ∨ 16 ≤ (4 * nI p + nI k).toNatClampNeg) := by rw [ix4]; exact nI_in (by omega) (by decide)
  have ea : μ 12 0 (4 * nI p + nI k).toNatClampNeg = nI a := by rw [ix4, nI_clamp (by omega)]; exact hact'
  have e8 : (8 * nI p + nI q).toNatClampNeg = 8 * p + q := by rw [ix8]; exact nI_clamp (by omega)
  have hnt : cNote σ m (σ 6 0 5) (nI p) (nI q) (nI k) nx kp 6 0 5 = σ 6 0 5 := rfl
  rcases (show a = 0 ∨ a = 1 ∨ a = 2 ∨ a = 3 ∨ a = 4 by omega) with rfl | rfl | rfl | rfl | rfl
  · by_cases hk2 : k = 2
    · subst hk2
      refine ⟨0, _, _, fun d => P94_5 (hs9 _) (hs25 _) (by decide) (by decide) (by decide) (by decide) rfl, fun d => ?_, hK.mono (by omega), (fun _ => rfl), fun _ => rfl⟩
      have h1 := P106_1 (d := d + 3) (σ := μ) (x1 := nI p) (x2 := nI q) (x3 := nI 2) hmb hab (by rw [ea]; rfl) rfl
      rw [em, ht] at h1
      exact h1
    · have hne : ¬ nI k = 2 := fun e => hk2 ((nI_eq (b := 2) (by omega) (by decide)).mp e)
      refine ⟨0, _, mq_up (mNote μ m (σ 6 0 5) (nI p) (nI q) (nI k)) 13 36 (8 * p + q) (σ 5 (8 * p + q) 6 + 4), fun d => P94_6 (hs9 _) (hs25 _) (by decide) (by decide) (by decide) (by decide) hne, fun d => ?_, ?_, (fun _ => rfl), fun _ => rfl⟩
      · have e6 : μ 13 36 (8 * p + q) = σ 5 (8 * p + q) 6 := h.1.1.get (lk_p' (by omega) 6 36 rfl)
        have h1 := P106_2 (d := d + 3) (σ := μ) (x1 := nI p) (x2 := nI q) (x3 := nI k) hmb hab (by rw [ea]; rfl) hne (by rw [ix8]; exact nI_in (by omega) (by decide))
        rw [em, ht, e8, e6] at h1
        exact h1
      · refine KI.mono (hK.proc (rel_5 hK.1 (by omega) rfl (by decide) (Or.inr (Or.inl rfl)) _) (PF.up (Or.inr (Or.inr ⟨rfl, by decide⟩))) (MF.up (Or.inr (Or.inl ⟨rfl, by decide⟩))) (Nat.le_refl _)) (by omega)
  · refine ⟨0, _, _, fun d => P94_1 (hs9 _) (hs25 _) rfl S29, fun d => ?_, (hK.proc (hK.1.rest hp hq) pf_rest mf_sleep (by omega)).mono (by omega), (fun _ => rfl), fun p' => pf_rest 4 p' 5 (by decide) (by omega) (by omega)⟩
    have h1 := P106_3 (d := d + 3) (σ := μ) (x1 := nI p) (x2 := nI q) (x3 := nI k) hmb hab (by rw [ea]; rfl) (by rw [ix8]; exact S104 (d := d + 2) (K := 8 * p + q) (by omega))
    rw [em, ht] at h1
    exact h1
  · refine ⟨0, _, _, fun d => P94_2 (hs9 _) (hs25 _) rfl S27, fun d => ?_, (hK.proc (hK.1.start hp hq hK.time.symm) pf_start mf_start (by omega)).mono (by omega), (fun _ => rfl), fun p' => pf_start 4 p' 5 (by decide) (by omega) (by omega)⟩
    have h1 := P106_4 (d := d + 3) (σ := μ) (x1 := nI p) (x2 := nI q) (x3 := nI k) hmb hab (by rw [ea]; rfl) (by rw [ix8]; exact S103 (d := d + 1) (K := 8 * p + q) (by omega))
    rw [em, ht] at h1
    exact h1
  · have hcm : mNote μ m (σ 6 0 5) (nI p) (nI q) (nI k) 10 8 p = nI N := ((hK.1.1.cnt hp).trans (show cNote σ m (σ 6 0 5) (nI p) (nI q) (nI k) nx kp 4 p 5 = nI N from hc))
    have hPK := hK.1.restart hp hN hK.time.symm
    generalize hn : cNote σ m (σ 6 0 5) (nI p) (nI q) (nI k) nx kp = σn at hs9 hs25 hK hPK hcm
    generalize hmn : mNote μ m (σ 6 0 5) (nI p) (nI q) (nI k) = μn at hK hPK hcm
    have hc' : σn 4 p 5 = nI N := by rw [← hn]; exact hc
    have ez : ∀ j, mq_zr (cSA σn p (σn 6 0 5) N) 10 (2 * p) 0 4 4 p j = cSA σn p (σn 6 0 5) N 4 p j := fun j => by
      unfold mq_zr
      rw [if_neg (by rintro ⟨h, -⟩; exact absurd h (by decide))]
    have e7 : mq_zr (cSA σn p (σn 6 0 5) N) 10 (2 * p) 0 4 4 p 7 = σn 4 p 7 := (ez 7).trans (pf_SA N 4 p 7 (by decide) (by decide) (by decide))
    have hz : ∀ k i j, k ≠ 10 → mq_zr (cSA σn p (σn 6 0 5) N) 10 (2 * p) 0 4 k i j = cSA σn p (σn 6 0 5) N k i j := fun k i j hk => by
      unfold mq_zr
      rw [if_neg (fun h => hk h.1)]
    refine ⟨1, mq_up (mq_zr (cSA σn p (σn 6 0 5) N) 10 (2 * p) 0 4) 4 p 7 (σn 4 p 7 + 1), mSA (mq_zr (mq_up μn 10 9 p (μn 10 9 p + 1)) 12 1 (4 * p) 4) p N, fun d => ?_, fun d => ?_, ⟨hPK.mono (by omega), ?_, ?_⟩, fun j => ?_, fun p' => ?_⟩
    · rw [← e7]
      exact P94_3 (hs9 _) (hs25 _) rfl (S28 (N := N) hN hc')
    · have h1 := P106_5 (d := d + 3) (σ := μ) (x1 := nI p) (x2 := nI q) (x3 := nI k) hmb hab (by rw [ea]; rfl) (by rw [em, ht]; exact (by rw [show (mq_up (mq_up (mq_up (mq_up (mq_up μ 14 5 m (σ 6 0 5)) 14 6 m (nI p)) 14 7 m (nI q)) 14 8 m (nI k)) 7 0 36 (μ 7 0 36 + 1)) = μn from hmn]; exact S105 (d := d) hp hN hcm))
      exact h1
    · refine ((hK.2.1.frame (pf_SA N).rfc (((RFm.up (k := 10) (i := 9) (j := p) rfl).tr (rfm_zr (by decide))).tr (mf_SA N).rfm) (b' := b + 9) (by omega)).zsem hp).frame (RFc.up rfl) RFm.rf (Nat.le_refl _)
    · refine hK.2.2.frame (fun j => ?_) (by omega)
      rw [up_nk (by decide), hz 1 0 j (by decide)]
      exact pf_SA N 1 0 j (by decide) (by omega) (by omega)
    · rw [up_nk (by decide), hz 6 0 j (by decide)]
      refine (pf_SA N 6 0 j (by decide) (by omega) (by omega)).trans ?_
      rw [← hn]; rfl
    · rw [up_nj (by decide), hz 4 p' 5 (by decide)]
      refine (pf_SA N 4 p' 5 (by decide) (by omega) (by omega)).trans ?_
      rw [← hn]; rfl
  · refine ⟨1, _, mq_up (mNote μ m (σ 6 0 5) (nI p) (nI q) (nI k)) 31 0 p 1, fun d => P94_4 (hs9 _) (hs25 _) rfl, fun d => ?_, ?_, (fun _ => rfl), fun p' => up_nj (by decide)⟩
    · have ep := nI_clamp (n := p) (by omega)
      have h1 := P106_6 (d := d + 3) (σ := μ) (x1 := nI p) (x2 := nI q) (x3 := nI k) hmb hab (by rw [ea]; decide) (by rw [ea]; decide) (by rw [ea]; decide) (by rw [ea]; decide) (nI_in hp (by decide))
      rw [em, ht, ep] at h1
      exact h1
    · refine KI.mono (b := b + 1) ⟨⟨hK.1.1.both (lk_4 hp rfl) 1, fun K hK' => hK.1.2.1 K hK', og_eq hK.1.2.2 (fun _ => rfl) (fun _ => rfl) (fun k => up_nj (by decide)) (fun _ => rfl) rfl⟩, hK.2.1.frame (RFc.up rfl) (RFm.up rfl) (Nat.le_refl _), hK.2.2.frame (fun j => rfl) (Nat.le_refl _)⟩ (by omega)
/-- both go through the processes for late ones, from the q-th on -/
def DC (d p : Nat) (k : Nat) (σ : mSg) (r : mRz) (σ1 : mSg) : Prop := Rn d 93 2 [(0, .inr (some (6, 0))), (1, .inr (some (4, p))), (2, .inl (nI k))] [] σ r σ1 ∧ ∀ r3 : Nat, Rn d 93 2 [(0, .inr (some (6, 0))), (1, .inr (some (4, p))), (2, .inl (nI k)), (3, .inr (some (5, r3)))] [] σ r σ1
def DM (d p : Nat) (k : Nat) (μ : mSg) (r : mRz) (μ1 : mSg) : Prop := Rn d 132 2 [(0, .inr (some (7, 0))), (1, .inl (nI p)), (2, .inl (nI k))] [] μ r μ1 ∧ ∀ x3 : Int32, Rn d 132 2 [(0, .inr (some (7, 0))), (1, .inl (nI p)), (2, .inl (nI k)), (3, .inl x3)] [] μ r μ1
theorem S47 : Sp (d + 1) 47 [.inr (some (5, K)), .inl now] σ (.inl (some (.inl (if ¬ σ 5 K 8 = -1 ∧ σ 5 K 8 < now then 1 else 0)))) σ := by
  by_cases h1 : σ 5 K 8 = -1
  · rw [if_neg (fun h => h.1 h1)]; exact P47_1 h1
  · by_cases h2 : σ 5 K 8 < now
    · rw [if_pos ⟨h1, h2⟩]; exact P47_2 h1 h2
    · rw [if_neg (fun h => h2 h.2)]; exact P47_3 h1 h2
theorem late_sim {e : Nat} (hp : p < 4) (hN : N ≤ 8) : ∀ (m k : Nat) (σ μ : mSg) (b : Nat), k + m = N → KI b σ0 μ0 σ μ → b + 9 * m < 2 ^ 29 → σ 4 p 5 = nI N → ∃ r σ1 μ1, DC (d + 4) p k σ (.inl (some (.inl r))) σ1 ∧ DM (e + 4) p k μ (.inl (some (.inl r))) μ1 ∧ KI (b + 9 * m) σ0 μ0 σ1 μ1 ∧ (∀ j, σ1 6 0 j = σ 6 0 j) ∧ (∀ p', σ1 4 p' 5 = σ 4 p' 5) ∧ (r = 0 ∨ r = 1)
  | 0, k, σ, μ, b, hk, h, hb, hc => by
    have ee : k = N := by omega
    subst ee
    have ep := nI_clamp (n := p) (by omega)
    have hcm : μ 10 8 p = nI k := (h.1.1.cnt hp).trans hc
    have hpb : ¬ (nI p < 0 ∨ 4 ≤ (nI p).toNatClampNeg) := nI_in hp (by decide)
    have hx : ¬ nI k < σ 4 p 5 := by rw [hc]; exact fun h => Int32.lt_irrefl h
    have hx' : ¬ nI k < μ 10 8 (nI p).toNatClampNeg := by rw [ep, hcm]; exact fun h => Int32.lt_irrefl h
    exact ⟨0, σ, μ, ⟨P93_2_4 hx, fun _ => P93_2a_4 hx⟩, ⟨P132_2_6 hpb hx', fun _ => P132_2a_6 hpb hx'⟩, h, (fun _ => rfl), fun _ => rfl, Or.inl rfl⟩
  | m + 1, k, σ, μ, b, hk, h, hb, hc => by
    have ep := nI_clamp (n := p) (by omega)
    have ek := nI_clamp (n := k) (by omega)
    have e8 : (8 * nI p + nI k).toNatClampNeg = 8 * p + k := by rw [ix8]; exact nI_clamp (by omega)
    have hcm : μ 10 8 p = nI N := (h.1.1.cnt hp).trans hc
    have hpb : ¬ (nI p < 0 ∨ 4 ≤ (nI p).toNatClampNeg) := nI_in hp (by decide)
    have hx : nI k < σ 4 p 5 := by rw [hc]; exact (nI_ltI (by omega) (by omega)).mpr (by omega)
    have hx' : nI k < μ 10 8 (nI p).toNatClampNeg := by rw [ep, hcm]; exact (nI_ltI (by omega) (by omega)).mpr (by omega)
    have hkb : ¬ (nI k < 0 ∨ 8 ≤ (nI k).toNatClampNeg) := nI_in (by omega) (by decide)
    have h8b : ¬ (8 * nI p + nI k < 0 ∨ 32 ≤ (8 * nI p + nI k).toNatClampNeg) := by rw [ix8]; exact nI_in (by omega) (by decide)
    have e7 : μ 13 37 (8 * p + k) = σ 5 (8 * p + k) 7 := h.1.1.st (by omega)
    have ed : μ 13 38 (8 * p + k) = σ 5 (8 * p + k) 8 := h.1.1.get (lk_p' (by omega) 8 38 rfl)
    have ht : μ 7 0 2 = σ 6 0 5 := h.time
    have hPI := h.1.2.1 (8 * p + k) (by omega)
    by_cases hl : ¬ σ 5 (8 * p + k) 8 = -1 ∧ σ 5 (8 * p + k) 8 < σ 6 0 5
    · have s47 := S47 (d := d + 3) (K := 8 * p + k) (now := σ 6 0 5) (σ := σ)
      rw [if_pos hl] at s47
      have h2 : KI b σ0 μ0 (mq_up σ 5 (8 * p + k) 8 (-1)) (mq_up μ 13 38 (8 * p + k) (-1)) := by
        refine h.proc ⟨h.1.1.both (lk_p' (by omega) 8 38 rfl) (-1), fun K' hK' => ?_, og_eq h.1.2.2 (fun k => up_nj (by decide)) (fun k => up_nj (by decide)) (fun k => up_nk (by decide)) (fun k => up_ni (by decide)) (up_nk (by decide))⟩ (PF.up (Or.inr (Or.inr ⟨rfl, by decide⟩))) (MF.up (Or.inr (Or.inl ⟨rfl, by decide⟩))) (Nat.le_refl _)
        obtain ⟨a1, a2, a3, a4⟩ := h.1.2.1 K' hK'
        unfold PI
        rw [up_nj (j' := 7) (by decide), up_nj (j' := 5) (by decide), up_nj (j' := 11) (by decide), up_nj (j' := 10) (by decide)]
        by_cases ee : K' = 8 * p + k
        · rw [ee] at a3 a4 ⊢
          rw [up_eq]
          exact ⟨fun _ => rfl, fun _ => rfl, a3, a4⟩
        · rw [up_ni ee]
          exact ⟨a1, a2, a3, a4⟩
      have h0 : ¬ σ 5 (8 * p + k) 7 = 0 := fun e => hl.1 (hPI.1 e)
      obtain ⟨r, σ1, μ1, f1, f2, f3, f4, f5⟩ := fails_both h2 (by omega) hp (show k < 8 by omega) (k := 2) (by decide)
      have f1 := f1 d
      have f2 := f2 e
      have hr : r = 0 ∨ ¬ r = 0 := Decidable.em _
      have c1 : ¬ μ 13 37 (8 * nI p + nI k).toNatClampNeg = 0 := by rw [e8, e7]; exact h0
      have c2 : ¬ μ 13 38 (8 * nI p + nI k).toNatClampNeg = -1 := by rw [e8, ed]; exact hl.1
      have c3 : μ 13 38 (8 * nI p + nI k).toNatClampNeg < μ 7 0 2 := by rw [e8, ed, ht]; exact hl.2
      have f1' : Sp (d + 4) 94 [.inr (some (6, 0)), .inr (some (4, p)), .inr (some (5, 8 * p + (nI k).toNatClampNeg)), .inl 2] (mq_up σ 5 (8 * p + (nI k).toNatClampNeg) 8 (-1)) (.inl (some (.inl r))) σ1 := by rw [ek]; exact f1
      have f2' : Sp (e + 4) 106 [.inr (some (7, 0)), .inl (nI p), .inl (nI k), .inl 2] (mq_up μ 13 38 (8 * nI p + nI k).toNatClampNeg (-1)) (.inl (some (.inl r))) μ1 := by rw [e8]; exact f2
      have s47' : Sp (d + 4) 47 [.inr (some (5, 8 * p + (nI k).toNatClampNeg)), .inl (σ 6 0 5)] σ (.inl (some (.inl 1))) σ := by rw [ek]; exact s47
      rcases hr with hr | hr
      · obtain ⟨r2, σ2, μ2, g1, g2, g3, g4, g5, g6⟩ := late_sim hp hN m (k + 1) σ1 μ1 (b + 9) (by omega) f3 (by omega) ((f5 p).trans (by rw [up_nk (by decide)]; exact hc))
        refine ⟨r2, σ2, μ2, ⟨P93_2_2 hx hkb s47' (by decide) f1' hr ?_, fun r3 => P93_2a_2 hx hkb s47' (by decide) f1' hr ?_⟩, ⟨P132_2_3 hpb hx' h8b c1 c2 c3 f2' hr ?_, fun x3 => P132_2a_3 hpb hx' h8b c1 c2 c3 f2' hr ?_⟩, ?_, fun j => ?_, fun p' => ?_, g6⟩
        · rw [nI_1]; exact g1.2 _
        · rw [nI_1]; exact g1.2 _
        · rw [nI_1]; exact g2.2 _
        · rw [nI_1]; exact g2.2 _
        · rw [show b + 9 * (m + 1) = b + 9 + 9 * m by omega]; exact g3
        · rw [g4, f4]; rfl
        · rw [g5, f5]; rfl
      · refine ⟨1, σ1, μ1, ⟨P93_2_3 hx hkb s47' (by decide) f1' hr, fun r3 => P93_2a_3 hx hkb s47' (by decide) f1' hr⟩, ⟨P132_2_4 hpb hx' h8b c1 c2 c3 f2' hr, fun x3 => P132_2a_4 hpb hx' h8b c1 c2 c3 f2' hr⟩, f3.mono (by omega), (fun j => (f4 j).trans rfl), fun p' => (f5 p').trans rfl, Or.inr rfl⟩
    · have s47 := S47 (d := d + 3) (K := 8 * p + k) (now := σ 6 0 5) (σ := σ)
      rw [if_neg hl] at s47
      have s47' : Sp (d + 4) 47 [.inr (some (5, 8 * p + (nI k).toNatClampNeg)), .inl (σ 6 0 5)] σ (.inl (some (.inl 0))) σ := by rw [ek]; exact s47
      obtain ⟨r2, σ2, μ2, g1, g2, g3, g4, g5, g6⟩ := late_sim hp hN m (k + 1) σ μ b (by omega) h (by omega) hc
      have hM : ∀ (Q : Prop), ((μ 13 37 (8 * nI p + nI k).toNatClampNeg = 0 → Q) → (¬ μ 13 37 (8 * nI p + nI k).toNatClampNeg = 0 → μ 13 38 (8 * nI p + nI k).toNatClampNeg = -1 → Q) → (¬ μ 13 37 (8 * nI p + nI k).toNatClampNeg = 0 → ¬ μ 13 38 (8 * nI p + nI k).toNatClampNeg = -1 → ¬ μ 13 38 (8 * nI p + nI k).toNatClampNeg < μ 7 0 2 → Q) → Q) := fun Q q1 q2 q3 => by
        by_cases c1 : μ 13 37 (8 * nI p + nI k).toNatClampNeg = 0
        · exact q1 c1
        · by_cases c2 : μ 13 38 (8 * nI p + nI k).toNatClampNeg = -1
          · exact q2 c1 c2
          · refine q3 c1 c2 (fun c3 => hl ⟨?_, ?_⟩)
            · rw [← ed, ← e8]; exact c2
            · rw [← ed, ← e8, ← ht]; exact c3
      refine ⟨r2, σ2, μ2, ⟨P93_2_1 hx hkb s47' rfl ?_, fun r3 => P93_2a_1 hx hkb s47' rfl ?_⟩, ⟨?_, fun x3 => ?_⟩, g3.mono (by omega), g4, g5, g6⟩
      · rw [nI_1]; exact g1.2 _
      · rw [nI_1]; exact g1.2 _
      · have g2 := g2.2 (8 * nI p + nI k)
        rw [← nI_1] at g2
        exact hM _ (fun c1 => P132_2_1 hpb hx' h8b c1 g2) (fun c1 c2 => P132_2_2 hpb hx' h8b c1 c2 g2) (fun c1 c2 c3 => P132_2_5 hpb hx' h8b c1 c2 c3 g2)
      · have g2 := g2.2 (8 * nI p + nI k)
        rw [← nI_1] at g2
        exact hM _ (fun c1 => P132_2a_1 hpb hx' h8b c1 g2) (fun c1 c2 => P132_2a_2 hpb hx' h8b c1 c2 g2) (fun c1 c2 c3 => P132_2a_5 hpb hx' h8b c1 c2 c3 g2)
theorem late_both {e : Nat} (h : KI b σ0 μ0 σ μ) (hb : b < 2 ^ 28) (hp : p < 4) : ∃ r σ1 μ1, Sp (d + 5) 93 [.inr (some (6, 0)), .inr (some (4, p))] σ (.inl (some (.inl r))) σ1 ∧ Sp (e + 5) 132 [.inr (some (7, 0)), .inl (nI p)] μ (.inl (some (.inl r))) μ1 ∧ KI (b + 72) σ0 μ0 σ1 μ1 ∧ (∀ j, σ1 6 0 j = σ 6 0 j) ∧ (∀ p', σ1 4 p' 5 = σ 4 p' 5) ∧ (r = 0 ∨ r = 1) := by
  obtain ⟨N, hN, hc⟩ := h.cnt hp
  obtain ⟨r, σ1, μ1, g1, g2, g3, g4, g5, g6⟩ := late_sim (d := d) (e := e) (σ0 := σ0) (μ0 := μ0) hp hN N 0 σ μ b (by omega) h (by omega) hc
  exact ⟨r, σ1, μ1, P93_1 g1.1, P132_1 g2.1, g3.mono (by omega), g4, g5, g6⟩
end FAILS
