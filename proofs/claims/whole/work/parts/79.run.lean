/-! Windows and runs. -/
theorem sumN_mono (f : Nat → Nat) : ∀ {a b : Nat}, a ≤ b → sumN f a ≤ sumN f b := by
  intro a b h
  induction b with
  | zero => rw [show a = 0 by omega]; exact Nat.le_refl _
  | succ b ih =>
    by_cases e : a = b + 1
    · rw [e]; exact Nat.le_refl _
    · have := ih (by omega)
      show sumN f a ≤ sumN f b + f b
      omega
theorem sumN_le (f : Nat → Nat) {W : Nat} (h : ∀ j, j < W → f j ≤ 100) : ∀ {a : Nat}, a ≤ W → sumN f a ≤ 100 * a := by
  intro a ha
  induction a with
  | zero => exact Nat.le_refl _
  | succ a ih =>
    have := ih (by omega)
    have := h a (by omega)
    show sumN f a + f a ≤ 100 * (a + 1)
    omega
theorem nat_modk (T k S : Nat) (h : T % S + k < S) : (T + k) % S = T % S + k := by
  rw [Nat.add_mod, Nat.mod_eq_of_lt (show k < S by omega), Nat.mod_eq_of_lt h]
theorem nat_modw (T S : Nat) (h : T % S + 1 = S) : (T + 1) % S = 0 := by
  rw [Nat.add_mod]
  by_cases h1 : S = 1
  · rw [h1]; omega
  · rw [Nat.mod_eq_of_lt (show 1 < S by omega), h, Nat.mod_self]
section RUN
variable {d e b p : Nat} {σ μ σ0 μ0 : mSg}
theorem S86 {x : Int32} : Sp (d + 1) 86 [.inl x] σ (rI (in01 x 4)) σ := by
  by_cases h0 : x < 0
  · rw [in01_0 (fun c => c.1 h0)]; exact P86_1 h0
  · by_cases h1 : x < 4
    · rw [in01_1 h0 h1]; exact P86_2 h0 h1
    · rw [in01_0 (fun c => h1 c.2)]; exact P86_3 h0 h1
theorem S89 (hp : p < 4) : Sp (d + 2) 89 [.inr (some (6, 0)), .inl (nI p)] σ (.inl (some (.inr (some (4, p))))) σ := by
  have hin : in01 (nI p) 4 = 1 := in01_1 (nI_pos (by omega)) ((nI_ltI (b := 4) (by omega) (by decide)).mpr hp)
  have t := P89_2 (d := d + 1) (σ := σ) (x1 := nI p) S86 (by rw [hin]; decide) (nI_in hp (by decide))
  rw [nI_clamp (by omega)] at t
  exact t
theorem L130 {c s W : Nat} {ln : Nat → Nat} (hW : W ≤ 8) (hc : c < W) (hs : s < ln c) (hln : ∀ j, j < W → 1 ≤ ln j ∧ ln j ≤ 100 ∧ μ 11 11 j = nI (ln j)) : ∀ m k, k + m = c → Rn d 130 12 [(0, .inr (some (7, 0))), (1, .inl (nI (sumN ln c + s - sumN ln k))), (2, .inl (nI k))] [] μ (rI (μ 11 10 c)) μ
  | 0, k, h => by
    have ee : k = c := by omega
    subst ee
    have ek := nI_clamp (n := k) (by omega)
    obtain ⟨l1, l2, l3⟩ := hln k hc
    have t := P130_12_1 (d := d) (σ := μ) (x1 := nI (sumN ln k + s - sumN ln k)) (x2 := nI k) (nI_in (show k < 8 by omega) (by decide)) (by rw [ek, l3]; exact (nI_ltI (by omega) (by omega)).mpr (by omega))
    rw [ek] at t
    exact t
  | m + 1, k, h => by
    have ih := L130 hW hc hs hln m (k + 1) (by omega)
    have ek := nI_clamp (n := k) (by omega)
    obtain ⟨l1, l2, l3⟩ := hln k (by omega)
    have h1 : sumN ln (k + 1) ≤ sumN ln c := sumN_mono ln (by omega)
    have h2 : sumN ln c ≤ 100 * c := sumN_le ln (fun j hj => (hln j hj).2.1) (by omega)
    have h3 : sumN ln (k + 1) = sumN ln k + ln k := rfl
    have hsc := (hln c hc).2.1
    refine P130_12_2 (nI_in (show k < 8 by omega) (by decide)) (by rw [ek, l3]; exact nI_nlt (by omega) (by omega)) ?_
    have e1 : nI (sumN ln c + s - sumN ln k) - nI (ln k) = nI (sumN ln c + s - sumN ln (k + 1)) := by
      rw [pk_sub (by omega)]
      congr 1
      omega
    rw [ek, l3, e1, nI_1]
    exact ih
/-- whose window it is: both say the same -/
theorem owner_both (h : KI b σ0 μ0 σ μ) (hb : b < 2 ^ 30) (hbg : ¬ σ 6 0 7 = 0) : ∃ p, p < 4 ∧ (∀ d, Sp (d + 1) 13 [.inr (some (2, 0))] σ (rI (nI p)) σ) ∧ ∀ e, Sp (e + 1) 130 [.inr (some (7, 0))] μ (rI (nI p)) μ := by
  obtain ⟨W, T, c, s, ln, g1, g2, g3, g4, g5, g6, g7, g8, g9, g10⟩ := h.2.1.2.2.2.2
  obtain ⟨k1, k2, k3, k4⟩ := g10 hbg
  obtain ⟨l1, l2, l3, o, ho, l4⟩ := g8 c k2
  have ec := nI_clamp (n := c) (by omega)
  have hln : ∀ j, j < W → 1 ≤ ln j ∧ ln j ≤ 100 ∧ μ 11 11 j = nI (ln j) := fun j hj => by
    obtain ⟨a1, a2, a3, -⟩ := g8 j hj
    exact ⟨a1, a2, (h.1.1.get (k := 11) (i := 1) (j := j) (by show (if 1 < 2 ∧ j < 8 then some (11, 11, j) else none) = _; rw [if_pos (by omega)])).trans a3⟩
  have hS : sumN ln W ≤ 100 * W := sumN_le ln (fun j hj => (hln j hj).2.1) (Nat.le_refl _)
  have hS1 : 1 ≤ sumN ln W := by
    have t := sumN_mono ln (show 1 ≤ W by omega)
    have t2 := (hln 0 (by omega)).1
    have t3 : sumN ln 1 = 0 + ln 0 := rfl
    omega
  refine ⟨o, ho, fun d => ?_, fun e => ?_⟩
  · have t := P13_1 (d := d) (σ := σ) (by rw [g5, g3]; exact (nI_ltI (by omega) (by omega)).mpr k2) (by rw [g5]; exact nI_in (show c < 8 by omega) (by decide))
    rw [g5, ec, l4] at t
    exact t
  · have ht : μ 7 0 2 = nI T := h.time.trans g4
    refine P130_1 (by rw [g7]; exact nI_ne0 (by omega) (by omega)) ?_
    have t := L130 (d := e) (μ := μ) g1 k2 k3 hln c 0 (by omega)
    have e0 : sumN ln c + s - sumN ln 0 = T % sumN ln W := by rw [k4]; rfl
    have eo : μ 11 10 c = nI o := (h.1.1.get (k := 11) (i := 0) (j := c) (by show (if 0 < 2 ∧ c < 8 then some (11, 10, c) else none) = _; rw [if_pos (by omega)])).trans l4
    rw [e0, eo] at t
    rw [ht, g7, pk_rem (by omega) (by omega) (by omega)]
    exact t
/-- time goes on, and the window -/
theorem adv_both (h : KI b σ0 μ0 σ μ) (hb : b < 2 ^ 30) (hbg : ¬ σ 6 0 7 = 0) : ∃ σ2, (∀ d, Sp (d + 1) 14 [.inr (some (2, 0))] (mq_up σ 6 0 5 (σ 6 0 5 + 1)) (.inl none) σ2) ∧ KI (b + 1) σ0 μ0 σ2 (mq_up μ 7 0 2 (μ 7 0 2 + 1)) ∧ σ2 6 0 6 = σ 6 0 6 ∧ σ2 6 0 7 = σ 6 0 7 := by
  obtain ⟨⟨h1, h2, h3⟩, ⟨c1, c2, c3, c4, c5⟩, h5⟩ := h
  obtain ⟨W, T, c, s, ln, g1, g2, g3, g4, g5, g6, g7, g8, g9, g10⟩ := c5
  obtain ⟨k1, k2, k3, k4⟩ := g10 hbg
  obtain ⟨l1, l2, l3, o, ho, l4⟩ := g8 c k2
  have ec := nI_clamp (n := c) (by omega)
  have ht : μ 7 0 2 = σ 6 0 5 := h1.get (k := 6) (i := 0) (j := 5) rfl
  have hR : Rel σ0 μ0 (mq_up σ 6 0 5 (σ 6 0 5 + 1)) (mq_up μ 7 0 2 (μ 7 0 2 + 1)) := by rw [ht]; exact h1.both (k := 6) (i := 0) (j := 5) rfl _
  have hS : sumN ln W ≤ 100 * W := sumN_le ln (fun j hj => (g8 j hj).2.1) (Nat.le_refl _)
  have hc1 : sumN ln (c + 1) ≤ sumN ln W := sumN_mono ln (by omega)
  have hc1' : sumN ln (c + 1) = sumN ln c + ln c := rfl
  have hlt : nI c < nI W := (nI_ltI (by omega) (by omega)).mpr k2
  have hcb : ¬ (nI c < 0 ∨ 8 ≤ (nI c).toNatClampNeg) := nI_in (show c < 8 by omega) (by decide)
  have f3 : mq_up σ 6 0 5 (σ 6 0 5 + 1) 2 0 3 = nI c := g5
  have f2 : mq_up σ 6 0 5 (σ 6 0 5 + 1) 2 0 2 = nI W := g3
  have f4 : mq_up σ 6 0 5 (σ 6 0 5 + 1) 2 0 4 = nI s := g6
  have fl : mq_up σ 6 0 5 (σ 6 0 5 + 1) 11 1 c = nI (ln c) := l3
  -- from the new place of the window
  have fin : ∀ (σ2 : mSg) (c' s' : Nat), Rel σ0 μ0 σ2 (mq_up μ 7 0 2 (μ 7 0 2 + 1)) → (∀ k i j, k ≠ 2 → ¬ (k = 6 ∧ j = 5) → σ2 k i j = σ k i j) → σ2 2 0 2 = nI W → σ2 2 0 3 = nI c' → σ2 2 0 4 = nI s' → σ2 6 0 5 = nI (T + 1) → c' < W → s' < ln c' → (T + 1) % sumN ln W = sumN ln c' + s' → KI (b + 1) σ0 μ0 σ2 (mq_up μ 7 0 2 (μ 7 0 2 + 1)) := fun σ2 c' s' hR2 hf q2 q3 q4 q5 q6 q7 q8 => by
    refine ⟨⟨hR2, fun K hK => ?_, OG.mono (og_eq h3 (fun k => hf 5 k 7 (by decide) (by omega)) (fun k => hf 5 k 12 (by decide) (by omega)) (fun k => hf 4 k 6 (by decide) (by omega)) (fun _ => rfl) rfl) (by omega)⟩, ⟨?_, ?_, fun p j i hp hj hi => ?_, ?_, W, T + 1, c', s', ln, g1, by omega, q2, q5, q3, q4, g7, fun j hj => ?_, fun z => ?_, fun _ => ⟨k1, q6, q7, q8⟩⟩, h5.frame (fun j => hf 1 0 j (by decide) (by omega)) (by omega)⟩
    · obtain ⟨a1, a2, a3, a4⟩ := h2 K hK
      unfold PI
      rw [hf 5 K 7 (by decide) (by omega), hf 5 K 8 (by decide) (by omega), hf 5 K 5 (by decide) (by omega), hf 5 K 11 (by decide) (by omega), hf 5 K 10 (by decide) (by omega)]
      exact ⟨a1, a2, a3, a4⟩
    · obtain ⟨i1, i2, i3, n, i4, i5⟩ := c1
      refine ⟨fun p hp => ?_, fun p q hp hq => ?_, fun p e hp he => ?_, n, i4, ?_⟩
      · rw [hf 4 p 0 (by decide) (by omega), hf 4 p 5 (by decide) (by omega)]; exact i1 p hp
      · rw [hf 5 _ 0 (by decide) (by omega)]; exact i2 p q hp hq
      · rw [hf 10 _ e (by decide) (by omega)]; exact i3 p e hp he
      · rw [hf 6 0 4 (by decide) (by omega)]; exact i5
    · refine ⟨fun p s hp hs => ?_, fun h7 p s hp hs => ?_⟩
      · rw [hf 10 _ s (by decide) (by omega)]; exact c2.1 p s hp hs
      · rw [hf 6 0 7 (by decide) (by omega)] at h7
        rw [hf 10 _ s (by decide) (by omega)]; exact c2.2 h7 p s hp hs
    · rw [hf 15 p j (by decide) (by omega)]; exact c3 p j i hp hj hi
    · intro ch hch
      obtain ⟨hd, n, i1, i2, i3, i4, i5, i6, i7⟩ := c4 ch hch
      have h0 : ∀ j, σ2 0 ch j = σ 0 ch j := fun j => hf 0 ch j (by decide) (by omega)
      refine ⟨hd, n, i1, i2, by rw [h0]; exact i3, by rw [h0]; exact i4, fun j hj => ?_, ?_, ?_⟩
      · rw [hf 11 (2 + ch) _ (by decide) (by omega)]; exact i5 j hj
      · rw [h0, h0]; exact i6
      · rw [h0, h0, h0]; exact i7
    · rw [hf 11 1 j (by decide) (by omega), hf 11 0 j (by decide) (by omega)]; exact g8 j hj
    · rw [hf 6 0 7 (by decide) (by omega)] at z
      exact absurd z hbg
  have tT : mq_up σ 6 0 5 (σ 6 0 5 + 1) 6 0 5 = nI (T + 1) := by rw [up_eq, g4, nI_1]
  by_cases hx : s + 1 < ln c
  · refine ⟨mq_up (mq_up σ 6 0 5 (σ 6 0 5 + 1)) 2 0 4 (nI (s + 1)), fun d => ?_, fin _ c (s + 1) (hR.left (k := 2) (i := 0) (j := 4) rfl rfl _) (fun k i j a b => ?_) f2 f3 rfl tT k2 hx ?_, rfl, rfl⟩
    · have t := P14_1 (d := d) (σ := mq_up σ 6 0 5 (σ 6 0 5 + 1)) (by rw [f3, f2]; exact hlt) (by rw [f3]; exact hcb) (by rw [f3, ec, f4, fl, nI_1]; exact (nI_ltI (by omega) (by omega)).mpr hx)
      rw [f4, nI_1] at t
      exact t
    · rw [up_nk a, up_if, if_neg (fun z => b ⟨z.1, z.2.2⟩)]
    · rw [nat_modk T 1 (sumN ln W) (by omega), k4]; omega
  · have hse : s + 1 = ln c := by omega
    have t4 : ¬ mq_up σ 6 0 5 (σ 6 0 5 + 1) 2 0 4 + 1 < mq_up σ 6 0 5 (σ 6 0 5 + 1) 11 1 (mq_up σ 6 0 5 (σ 6 0 5 + 1) 2 0 3).toNatClampNeg := by rw [f3, ec, f4, fl, nI_1]; exact nI_nlt (by omega) (by omega)
    by_cases hcw : c + 1 < W
    · have hl1 := (g8 (c + 1) hcw).1
      have hc2 : sumN ln (c + 1 + 1) ≤ sumN ln W := sumN_mono ln (by omega)
      have hc2' : sumN ln (c + 1 + 1) = sumN ln (c + 1) + ln (c + 1) := rfl
      refine ⟨mq_up (mq_up (mq_up (mq_up σ 6 0 5 (σ 6 0 5 + 1)) 2 0 4 (nI (s + 1))) 2 0 4 0) 2 0 3 (nI (c + 1)), fun d => ?_, fin _ (c + 1) 0 (((hR.left (k := 2) (i := 0) (j := 4) rfl rfl _).left (k := 2) (i := 0) (j := 4) rfl rfl _).left (k := 2) (i := 0) (j := 3) rfl rfl _) (fun k i j a b => ?_) f2 rfl rfl tT hcw (by omega) ?_, rfl, rfl⟩
      · have t := P14_2 (d := d) (σ := mq_up σ 6 0 5 (σ 6 0 5 + 1)) (by rw [f3, f2]; exact hlt) (by rw [f3]; exact hcb) t4 (by rw [f3, f2, nI_1]; exact (nI_ltI (by omega) (by omega)).mpr hcw)
        rw [f4, f3, nI_1, nI_1] at t
        exact t
      · rw [up_nk a, up_nk a, up_nk a, up_if, if_neg (fun z => b ⟨z.1, z.2.2⟩)]
      · rw [nat_modk T 1 (sumN ln W) (by omega), k4]; omega
    · have hWc : W = c + 1 := by omega
      have hl0 := (g8 0 (by omega)).1
      refine ⟨mq_up (mq_up (mq_up (mq_up σ 6 0 5 (σ 6 0 5 + 1)) 2 0 4 (nI (s + 1))) 2 0 4 0) 2 0 3 0, fun d => ?_, fin _ 0 0 (((hR.left (k := 2) (i := 0) (j := 4) rfl rfl _).left (k := 2) (i := 0) (j := 4) rfl rfl _).left (k := 2) (i := 0) (j := 3) rfl rfl _) (fun k i j a b => ?_) f2 rfl rfl tT (by omega) (by omega) ?_, rfl, rfl⟩
      · have t := P14_3 (d := d) (σ := mq_up σ 6 0 5 (σ 6 0 5 + 1)) (by rw [f3, f2]; exact hlt) (by rw [f3]; exact hcb) t4 (by rw [f3, f2, nI_1]; exact nI_nlt (by omega) (by omega))
        rw [f4, nI_1] at t
        exact t
      · rw [up_nk a, up_nk a, up_nk a, up_if, if_neg (fun z => b ⟨z.1, z.2.2⟩)]
      · have e1 : T % sumN ln W + 1 = sumN ln W := by rw [k4, hWc, hc1']; omega
        rw [nat_modw T (sumN ln W) (by omega)]
        rfl
/-- one tick of a run: class's loop, reference's tick -/
theorem tick1 (h : KI b σ0 μ0 σ μ) (hb : b < 2 ^ 26) (hbg : ¬ σ 6 0 7 = 0) : ∃ many σ1 μ1, (∃ p, p < 4 ∧ (∀ d, Sp (d + 1) 13 [.inr (some (2, 0))] σ (rI (nI p)) σ) ∧ ((∃ σa, σ 4 p 8 = 0 ∧ Sp (d + 6) 92 [.inr (some (6, 0)), .inr (some (4, p))] σ (.inl none) σa ∧ ∀ d, Sp (d + 1) 14 [.inr (some (2, 0))] (mq_up σa 6 0 5 (σa 6 0 5 + 1)) (.inl none) σ1) ∨ (¬ σ 4 p 8 = 0 ∧ ∀ d, Sp (d + 1) 14 [.inr (some (2, 0))] (mq_up σ 6 0 5 (σ 6 0 5 + 1)) (.inl none) σ1))) ∧ Sp (e + 6) 134 [.inr (some (7, 0))] μ (rI many) μ1 ∧ KI (b + 101) σ0 μ0 σ1 μ1 ∧ σ1 6 0 6 = σ 6 0 6 + many ∧ σ1 6 0 7 = σ 6 0 7 := by
  obtain ⟨p, hp, o1, o2⟩ := owner_both h (by omega) hbg
  by_cases hst : σ 4 p 8 = 0
  · obtain ⟨many, σa, μa, t1, t2, t3, t4, t5⟩ := tick_both (d := d) (e := e) h hb hbg hp hst o2
    obtain ⟨σ1, a1, a2, a3, a4⟩ := adv_both t3 (by omega) (by rw [t5]; exact hbg)
    exact ⟨many, σ1, _, ⟨p, hp, o1, Or.inl ⟨σa, hst, t1, a1⟩⟩, t2, a2, by rw [a3, t4], by rw [a4, t5]⟩
  · obtain ⟨σ1, a1, a2, a3, a4⟩ := adv_both h (by omega) hbg
    have ep := nI_clamp (n := p) (by omega)
    have hstM : ¬ μ 31 0 (nI p).toNatClampNeg = 0 := by rw [ep, h.1.1.get (lk_4 (j := 8) hp rfl)]; exact hst
    exact ⟨0, σ1, _, ⟨p, hp, o1, Or.inr ⟨hst, a1⟩⟩, P134_11 (o2 _) (nI_in hp (by decide)) hstM, a2.mono (by omega), by rw [a3, Int32.add_zero], a4⟩
theorem run_sim {n : Nat} (hn : n ≤ 500) {bef : Int32} : ∀ (m k : Nat) (σ μ : mSg) (b : Nat) (acc : Int32), k + m = n → KI b σ0 μ0 σ μ → b + 101 * m < 2 ^ 26 → ¬ σ 6 0 7 = 0 → μ 7 0 0 = 0 → ∃ many σ1 μ1, (Rn (d + 6) 77 45 [(0, .inr (some (6, 0))), (1, .inl (nI n)), (2, .inl bef), (3, .inl (nI k))] [] σ (rI (σ1 6 0 6 - bef)) σ1 ∧ ∀ r, Rn (d + 6) 77 45 [(0, .inr (some (6, 0))), (1, .inl (nI n)), (2, .inl bef), (3, .inl (nI k)), (4, .inr (some (4, r)))] [] σ (rI (σ1 6 0 6 - bef)) σ1) ∧ Rn (e + 6) 141 34 [(0, .inr (some (7, 0))), (1, .inl (nI n)), (2, .inl acc), (3, .inl (nI k))] [] μ (rI (acc + many)) μ1 ∧ KI (b + 101 * m) σ0 μ0 σ1 μ1 ∧ σ1 6 0 6 = σ 6 0 6 + many ∧ σ1 6 0 7 = σ 6 0 7
  | 0, k, σ, μ, b, acc, hk, h, hb, hbg, hth => by
    have ee : k = n := by omega
    subst ee
    refine ⟨0, σ, μ, ⟨P77_45_4 (fun z => Int32.lt_irrefl z), fun r => P77_45b_4 (fun z => Int32.lt_irrefl z)⟩, ?_, h, by rw [Int32.add_zero], rfl⟩
    rw [Int32.add_zero]
    exact P141_34_3 (fun z => Int32.lt_irrefl z)
  | m + 1, k, σ, μ, b, acc, hk, h, hb, hbg, hth => by
    have hlt : nI k < nI n := (nI_ltI (by omega) (by omega)).mpr (by omega)
    obtain ⟨many, σ1, μ1, ⟨p, hp, o1, ho⟩, t2, t3, t4, t5⟩ := tick1 (d := d) (e := e) h (by omega) hbg
    have hth1 : μ1 7 0 0 = 0 := by
      rw [t3.1.1.2.2.2, ← h.1.1.2.2.2]; exact hth
    obtain ⟨many2, σ2, μ2, ⟨u1, u2⟩, u3, u4, u5, u6⟩ := run_sim hn (bef := bef) m (k + 1) σ1 μ1 (b + 101) (acc + many) (by omega) t3 (by omega) (by rw [t5]; exact hbg) hth1
    refine ⟨many + many2, σ2, μ2, ?_, ?_, ?_, ?_, by rw [u6, t5]⟩
    · rcases ho with ⟨σa, hst, c92, c14⟩ | ⟨hst, c14⟩
      · refine ⟨P77_45_2 hlt (o1 _) (S89 hp) hst c92 (c14 _) ?_, fun r => P77_45b_2 hlt (o1 _) (S89 hp) hst c92 (c14 _) ?_⟩
        · rw [nI_1]; exact u2 _
        · rw [nI_1]; exact u2 _
      · refine ⟨P77_45_3 hlt (o1 _) (S89 hp) hst (c14 _) ?_, fun r => P77_45b_3 hlt (o1 _) (S89 hp) hst (c14 _) ?_⟩
        · rw [nI_1]; exact u2 _
        · rw [nI_1]; exact u2 _
    · refine P141_34_1 hlt hth t2 ?_
      rw [nI_1, ← Int32.add_assoc]
      exact u3
    · rw [show b + 101 * (m + 1) = b + 101 + 101 * m by omega]; exact u4
    · rw [u5, t4, Int32.add_assoc]
end RUN
