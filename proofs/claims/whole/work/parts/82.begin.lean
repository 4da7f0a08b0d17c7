/-! It begins; it runs. -/
section BEG
variable {d e b p : Nat} {σ μ σ0 μ0 : mSg} {x1 : Int32}
theorem zr_same {k i a : Nat} : ∀ n, (∀ j, a ≤ j → j < a + n → σ k i j = 0) → mq_zr σ k i a n = σ := fun n h => by
  funext k' i' j'
  unfold mq_zr
  by_cases hh : k' = k ∧ i' = i ∧ a ≤ j' ∧ j' < a + n
  · rw [if_pos hh]
    obtain ⟨rfl, rfl, h1, h2⟩ := hh
    exact (h j' h1 h2).symm
  · rw [if_neg hh]
theorem KI.begun (h : KI b σ0 μ0 σ μ) (h7 : σ 6 0 7 = 0) (h2 : ¬ σ 2 0 2 = 0) : KI b σ0 μ0 (mq_up σ 6 0 7 1) (mq_up μ 7 0 1 1) := by
  obtain ⟨⟨h1, hPI, h3⟩, ⟨c1, c2, c3, c4, c5⟩, h5⟩ := h
  refine ⟨⟨h1.both (k := 6) (i := 0) (j := 7) rfl _, fun K hK' => hPI K hK', og_eq h3 (fun k => rfl) (fun k => rfl) (fun k => rfl) (fun k => rfl) rfl⟩, ⟨c1, ⟨c2.1, fun z => absurd z ?_⟩, c3, c4, ?_⟩, h5.frame (fun _ => rfl) (Nat.le_refl _)⟩
  · rw [up_eq]; decide
  · obtain ⟨W, T, c, s, ln, g1, g2, g3, g4, g5, g6, g7, g8, g9, g10⟩ := c5
    obtain ⟨rfl, rfl, rfl⟩ := g9 h7
    refine ⟨W, 0, 0, 0, ln, g1, g2, g3, g4, g5, g6, g7, g8, fun _ => ⟨rfl, rfl, rfl⟩, fun _ => ?_⟩
    have hW : 0 < W := Nat.pos_of_ne_zero fun z => h2 (by rw [g3, z]; rfl)
    exact ⟨hW, hW, (g8 0 hW).1, by rw [Nat.zero_mod]; rfl⟩
theorem L140 (hp : p < 4) {N : Nat} (hN : N ≤ 8) (hc : μ 10 8 p = nI N) {r : mRz} {ω : mSg} : ∀ m n, n + m = N → Rn (d + 2) 140 38 [(0, .inr (some (7, 0))), (1, .inl (nI (p + 1))), (2, .inl (nI N))] [] (mSA μ p N) r ω → Rn (d + 2) 140 45 [(0, .inr (some (7, 0))), (1, .inl (nI p)), (2, .inl (nI n))] [] (mSA μ p n) r ω
  | 0, n, h, hz => by
    have ee : n = N := by omega
    subst ee
    have hc' : mSA μ p n 10 8 p = nI n := (mf_SA n 10 8 p (by decide) (by decide) (by omega)).trans hc
    refine P140_45_2 (nI_in hp (by decide)) (by rw [nI_clamp (by omega), hc']; exact fun z => Int32.lt_irrefl z) ?_
    rw [nI_1]
    exact hz
  | m + 1, n, h, hz => by
    have ih := L140 hp hN hc m (n + 1) (by omega) hz
    have hc' : mSA μ p n 10 8 p = nI N := (mf_SA n 10 8 p (by decide) (by decide) (by omega)).trans hc
    refine P140_45_1 (nI_in hp (by decide)) (by rw [nI_clamp (by omega), hc']; exact (nI_ltI (by omega) (by omega)).mpr (by omega)) (σ3 := mSA μ p (n + 1)) ?_ ?_
    · rw [ix8]; exact S103 (by omega)
    · rw [nI_1]; exact ih
theorem begin_sim : ∀ (m k : Nat) (σ μ : mSg) (b : Nat), k + m = 4 → KI b σ0 μ0 σ μ → (∀ p s, p < 4 → s < 4 → σ 10 (2 * p) s = 0) → ∃ σ1 μ1, Rn (d + 3) 76 34 [(0, .inr (some (6, 0))), (1, .inl (nI k))] [] σ (.inl none) σ1 ∧ (Rn (e + 2) 140 38 [(0, .inr (some (7, 0))), (1, .inl (nI k))] [] μ (.inl none) μ1 ∧ ∀ x2, Rn (e + 2) 140 38 [(0, .inr (some (7, 0))), (1, .inl (nI k)), (2, .inl x2)] [] μ (.inl none) μ1) ∧ KI (b + 8 * m) σ0 μ0 σ1 μ1 ∧ σ1 6 0 7 = σ 6 0 7
  | 0, k, σ, μ, b, hk, h, hz => by
    have ee : k = 4 := by omega
    subst ee
    exact ⟨σ, μ, P76_34_2 (by decide), ⟨P140_38_2 (by decide), fun x2 => P140_38a_2 (by decide)⟩, h, rfl⟩
  | m + 1, k, σ, μ, b, hk, h, hz => by
    have hk4 : k < 4 := by omega
    have hlt : nI k < 4 := (nI_ltI (b := 4) (by omega) (by decide)).mpr hk4
    have ek := nI_clamp (n := k) (by omega)
    obtain ⟨N, hN, hc⟩ := h.cnt hk4
    have hm : μ 10 8 k = nI N := (h.1.1.cnt hk4).trans hc
    have hKI : KI (b + N) σ0 μ0 (cSA σ k (σ 6 0 5) N) (mSA μ k N) := h.proc (h.1.SA hk4 h.time.symm N hN) (pf_SA N) (mf_SA N) (by omega)
    have hzz : ∀ p s, p < 4 → s < 4 → cSA σ k (σ 6 0 5) N 10 (2 * p) s = 0 := fun p s hp hs => (pf_SA N 10 (2 * p) s (by decide) (by omega) (by omega)).trans (hz p s hp hs)
    have hs28 : Sp (d + 3) 28 [.inr (some (4, k)), .inl (σ 6 0 5)] σ (.inl none) (cSA σ k (σ 6 0 5) N) := by
      have t := S28 (d := d) (now := σ 6 0 5) hN hc
      rw [zr_same 4 (fun j _ hj => hzz k j hk4 (by omega))] at t
      exact t
    obtain ⟨σ1, μ1, r1, ⟨r2, r3⟩, r4, r5⟩ := begin_sim m (k + 1) _ _ (b + N) (by omega) hKI hzz
    have l := L140 (d := e) hk4 hN hm N 0 (by omega) (r3 (nI N))
    refine ⟨σ1, μ1, P76_34_1 hlt (nI_in hk4 (by decide)) (by rw [ek]; exact hs28) (by rw [nI_1]; exact r1), ⟨P140_38_1 hlt l, fun x2 => P140_38a_1 hlt l⟩, r4.mono (by omega), ?_⟩
    rw [r5]
    exact pf_SA N 6 0 7 (by decide) (by omega) (by omega)
theorem set_begin (h : KI b σ0 μ0 σ μ) (hJ : NB σ) : OV kd6 (b + 32) σ μ (Sp (d + 4) 76 [.inr (some (6, 0))] σ) (Sp (e + 3) 140 [.inr (some (7, 0))] μ) := by
  have e7 : μ 7 0 1 = σ 6 0 7 := h.1.1.get (k := 6) (i := 0) (j := 7) rfl
  have e3 : μ 7 0 3 = σ 2 0 2 := h.1.1.get (k := 2) (i := 0) (j := 2) rfl
  by_cases h7 : σ 6 0 7 = 0
  · by_cases h2 : σ 2 0 2 = 0
    · exact OV.thr (h.mono (by omega)) hJ (P76_1 h7 h2) (P140_1 (by rw [e7]; exact h7) (by rw [e3]; exact h2) (by decide)) ⟨rfl, rfl⟩
    · obtain ⟨σ1, μ1, r1, ⟨r2, -⟩, r4, r5⟩ := begin_sim (d := d) (e := e) 4 0 _ _ b rfl ((h.thr 0).begun h7 h2) (fun p s hp hs => h.2.1.2.1.2 h7 p s hp hs)
      exact ⟨0, _, σ1, μ1, P76_2 h7 h2 r1, P140_4 (by rw [e7]; exact h7) (by rw [e3]; exact h2) (by decide) r2, r4, fun z => absurd (r5.symm.trans z) (by rw [up_eq]; decide), Or.inl ⟨rfl, rfl⟩⟩
  · exact OV.thr (h.mono (by omega)) hJ (P76_3 h7) (P140_5 (by rw [e7]; exact h7) (by decide)) ⟨rfl, rfl⟩
theorem set_run (h : KI b σ0 μ0 σ μ) (hJ : NB σ) (hb : b + 50500 < 2 ^ 26) : OW kd7 (b + 50500) σ μ (Sp (d + 7) 77 [.inr (some (6, 0)), .inl x1] σ) (Sp (e + 7) 141 [.inr (some (7, 0)), .inl x1] μ) := by
  have e7 : μ 7 0 1 = σ 6 0 7 := h.1.1.get (k := 6) (i := 0) (j := 7) rfl
  have stop : ∀ t : Int32, ¬ t = 0 → Rn (e + 6) 141 34 [(0, .inr (some (7, 0))), (1, .inl x1), (2, .inl 0), (3, .inl 0)] [] (mq_up μ 7 0 0 t) (rI 0) (mq_up μ 7 0 0 t) := fun t ht => by
    by_cases hx : 0 < x1
    · exact P141_34_2 hx (by rw [up_eq]; exact ht)
    · exact P141_34_3 hx
  by_cases h7 : σ 6 0 7 = 0
  · exact OW.thr (h.mono (by omega)) hJ (P77_1 h7) (P141_1 (by rw [e7]; exact h7) (stop 2 (by decide))) (Or.inr ⟨rfl, rfl⟩)
  · by_cases h0 : x1 < 0
    · exact OW.thr (h.mono (by omega)) hJ (P77_2 h7 h0) (P141_2 (by rw [e7]; exact h7) S101 (in01_0 (fun c => c.1 h0)) (stop 1 (by decide))) (Or.inl ⟨rfl, rfl⟩)
    · obtain ⟨n, hn, rfl⟩ := nI_of h0
      by_cases h5 : 500 < n
      · exact OW.thr (h.mono (by omega)) hJ (P77_3 h7 h0 ((nI_ltI (a := 500) (by decide) hn).mpr h5)) (P141_2 (by rw [e7]; exact h7) S101 (in01_0 (fun c => absurd ((nI_ltI (b := 501) hn (by decide)).mp c.2) (by omega))) (stop 1 (by decide))) (Or.inl ⟨rfl, rfl⟩)
      · obtain ⟨many, σ1, μ1, ⟨u1, -⟩, u3, u4, u5, u6⟩ := run_sim (d := d) (e := e) (n := n) (by omega) (bef := σ 6 0 6) n 0 σ _ b 0 (by omega) (h.thr 0) (by omega) h7 (up_eq _ _ _ _ _)
        have ev : σ1 6 0 6 - σ 6 0 6 = many := i_of_add (by rw [u5, Int32.add_comm])
        rw [ev] at u1
        rw [Int32.zero_add] at u3
        exact ⟨0, _, many, σ1, μ1, P77_4 h7 h0 (fun z => h5 ((nI_ltI (a := 500) (by decide) hn).mp z)) u1, P141_3 (by rw [e7]; exact h7) S101 (by rw [show in01 (nI n) 501 = 1 from in01_1 h0 ((nI_ltI (b := 501) hn (by decide)).mpr (by omega))]; decide) u3, u4.mono (by omega), fun z => absurd (u6.symm.trans z) h7, Or.inl ⟨rfl, rfl⟩⟩
end BEG
