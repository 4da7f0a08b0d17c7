/-! The calls that a process makes: time, processes, semaphores. -/
def SV (b : Nat) (σ0 μ0 σ μ : mSg) (K : Nat) (C M : mRz → mSg → Prop) : Prop := ∃ (r : Int32) (σ1 μ1 : mSg), C (rI r) σ1 ∧ M (rI r) μ1 ∧ KI (b + 1) σ0 μ0 σ1 μ1 ∧ σ1 5 K 6 = σ 5 K 6 ∧ μ1 7 0 41 = μ 7 0 41 ∧ μ1 7 0 43 = μ 7 0 43 ∧ ∀ j, σ1 6 0 j = σ 6 0 j
def mTimed (μ : mSg) (K : Nat) (t : Int32) : mSg := mq_up (mq_up μ 13 37 K 2) 13 39 K t
def mTake (μ : mSg) (K : Nat) (a : Int32) : mSg := mq_up (mq_up (mq_up (mq_up μ 13 37 K 3) 13 40 K a) 13 41 K (μ 7 0 27)) 7 0 27 (μ 7 0 27 + 1)
section SERV
variable {d e b p q K N : Nat} {σ μ σ0 μ0 : mSg} {t a v now : Int32}
theorem sv_same {C M : mRz → mSg → Prop} (h : KI b σ0 μ0 σ μ) (r : Int32) (hC : C (rI r) σ) (hM : M (rI r) μ) : SV b σ0 μ0 σ μ K C M := ⟨r, σ, μ, hC, hM, h.mono (by omega), rfl, rfl, rfl, fun _ => rfl⟩
theorem PK.timed (h : PK b σ0 μ0 σ μ) (hp : p < 4) (hq : q < 8) (hr : σ 5 (8 * p + q) 7 = 1) : PK (b + 1) σ0 μ0 (cEnter σ p (8 * p + q) 2 t (-1)) (mTimed μ (8 * p + q) t) := by
  have hK : 8 * p + q < 32 := by omega
  have h11 : σ 5 (8 * p + q) 11 = -1 := (h.2.1 _ hK).2.2.1 (by rw [hr]; decide)
  refine ⟨?_, pi_enter (fun K' hK' _ => h.2.1 K' hK') (h.2.1 _ hK).2.1 (fun h => absurd h (by decide)) (fun _ => rfl) (fun h => absurd h (by decide)), og_eq (og_rest (μ := μ) h.2.2 hp hq (by decide)) (fun _ => rfl) (fun _ => rfl) (fun _ => rfl) (fun _ => rfl) rfl⟩
  have h1 := (h.1.both (lk_p' hK 7 37 rfl) 2).both (lk_p' hK 10 39 rfl) t
  have e : mq_up (mq_up (mq_up σ 5 (8 * p + q) 7 2) 5 (8 * p + q) 10 t) 5 (8 * p + q) 11 (-1) = mq_up (mq_up σ 5 (8 * p + q) 7 2) 5 (8 * p + q) 10 t := up_same (by rw [up_nj (by decide), up_nj (by decide)]; exact h11)
  unfold cEnter
  rw [e]
  exact (h1.left (k := 5) (i := 8 * p + q) (j := 12) (by simp [lk, lkF]) rfl _).left (k := 4) (i := p) (j := 6) (by simp [lk]) rfl _
theorem PK.take (h : PK b σ0 μ0 σ μ) (hp : p < 4) (hq : q < 8) (hr : σ 5 (8 * p + q) 7 = 1) : PK (b + 1) σ0 μ0 (cEnter σ p (8 * p + q) 3 (-1) a) (mTake μ (8 * p + q) a) := by
  have hK : 8 * p + q < 32 := by omega
  have h10 : σ 5 (8 * p + q) 10 = -1 := (h.2.1 _ hK).2.2.2 hr
  refine ⟨?_, pi_enter (fun K' hK' _ => h.2.1 K' hK') (h.2.1 _ hK).2.1 (fun h => absurd h (by decide)) (fun h => absurd rfl h) (fun h => absurd h (by decide)), ?_⟩
  · have h1 := (h.1.both (lk_p' hK 7 37 rfl) 3).both (lk_p' hK 11 40 rfl) a
    have e : mq_up (mq_up σ 5 (8 * p + q) 7 3) 5 (8 * p + q) 10 (-1) = mq_up σ 5 (8 * p + q) 7 3 := up_same (by rw [up_nj (by decide)]; exact h10)
    unfold cEnter mTake
    rw [e]
    exact (((h1.left (k := 5) (i := 8 * p + q) (j := 12) (by simp [lk, lkF]) rfl _).left (k := 4) (i := p) (j := 6) (by simp [lk]) rfl _).right (k' := 13) (i' := 41) (j' := 8 * p + q) rfl rfl _).right (k' := 7) (i' := 0) (j' := 27) rfl rfl _
  · have f41 : (fun k => mTake μ (8 * p + q) a 13 41 k) = upf (fun k => μ 13 41 k) (8 * p + q) (μ 7 0 27) := by
      funext k
      by_cases e : k = 8 * p + q
      · rw [e, upf_eq]; simp [mTake, mq_up]
      · rw [upf_ne e]; simp [mTake, mq_up, e]
    unfold OGs
    rw [f7_enter, f12_enter, f6_enter, f41]
    exact h.2.2.bump hp hq 3
theorem mf_timed : MF μ (mTimed μ K t) := (MF.up (Or.inr (Or.inl ⟨rfl, by decide⟩))).tr (MF.up (Or.inr (Or.inl ⟨rfl, by decide⟩)))
theorem mf_take : MF μ (mTake μ K a) := (((MF.up (Or.inr (Or.inl ⟨rfl, by decide⟩))).tr (MF.up (Or.inr (Or.inl ⟨rfl, by decide⟩)))).tr (MF.up (Or.inr (Or.inl ⟨rfl, by decide⟩)))).tr (MF.up (Or.inr (Or.inr ⟨rfl, rfl⟩)))
theorem S120 (hK : K < 32) : Sp (d + 1) 120 [.inr (some (7, 0)), .inl (nI K), .inl t] μ (.inl none) (mTimed μ K t) := by
  have h := P120_1 (d := d) (σ := μ) (x1 := nI K) (x2 := t) (nI_in hK (by decide))
  rw [nI_clamp (by omega)] at h
  exact h
/-- a field of a process's that is neither state, due, wait nor semaphore -/
theorem KI.fld (h : KI b σ0 μ0 σ μ) {j f : Nat} (hK : K < 32) (hf : lkF j = f) (h0 : f ≠ 0) (hj : j = 3 ∨ j = 6 ∨ j = 9 ∨ j = 13) (v : Int32) : KI b σ0 μ0 (mq_up σ 5 K j v) (mq_up μ 13 f K v) := by
  refine ⟨rel_5 h.1 hK hf h0 hj v, h.2.1.frame (RFc.up ?_) (RFm.up ?_) (Nat.le_refl _), h.2.2.frame (fun _ => rfl) (Nat.le_refl _)⟩
  · rcases hj with rfl | rfl | rfl | rfl <;> rfl
  · rfl
theorem KI.reg (h : KI b σ0 μ0 σ μ) (hK : K < 32) {r : Nat} (hr : r < 32) (v : Int32) : KI b σ0 μ0 (mq_up σ 13 K r v) (mq_up μ 16 0 (32 * K + r) v) :=
  ⟨⟨h.1.1.both (lk_r hK hr) v, fun K hK => h.1.2.1 K hK, og_eq h.1.2.2 (fun _ => rfl) (fun _ => rfl) (fun _ => rfl) (fun _ => rfl) rfl⟩, h.2.1.frame (RFc.up rfl) (RFm.up rfl) (Nat.le_refl _), h.2.2.frame (fun _ => rfl) (Nat.le_refl _)⟩
/-! 1: the next release -/
theorem sv1 (h : KI b σ0 μ0 σ μ) (hp : p < 4) (hq : q < 8) (hr : σ 5 (8 * p + q) 7 = 1) : SV b σ0 μ0 σ μ (8 * p + q) (Sp (d + 2) 32 [.inr (some (4, p)), .inr (some (5, 8 * p + q))] σ) (Sp (e + 2) 121 [.inr (some (7, 0)), .inl (nI (8 * p + q))] μ) := by
  have hK : 8 * p + q < 32 := by omega
  have eK := nI_clamp (n := 8 * p + q) (by omega)
  have hkb : ¬ (nI (8 * p + q) < 0 ∨ 32 ≤ (nI (8 * p + q)).toNatClampNeg) := nI_in hK (by decide)
  have e4 : μ 13 34 (8 * p + q) = σ 5 (8 * p + q) 4 := h.1.1.get (lk_p' hK 4 34 rfl)
  have e9 : μ 13 43 (8 * p + q) = σ 5 (8 * p + q) 9 := h.1.1.get (lk_p' hK 9 43 rfl)
  have e5 : μ 13 35 (8 * p + q) = σ 5 (8 * p + q) 5 := h.1.1.get (lk_p' hK 5 35 rfl)
  by_cases h4 : σ 5 (8 * p + q) 4 = 0
  · exact sv_same h 1 (P32_1 h4) (P121_1 hkb (by rw [eK, e4]; exact h4))
  · generalize hK0 : 8 * p + q = K at *
    obtain ⟨rel', hrel⟩ : ∃ x, x = σ 5 K 9 + σ 5 K 4 := ⟨_, rfl⟩
    -- the class
    have cC : Sp (d + 2) 32 [.inr (some (4, p)), .inr (some (5, K))] σ (rI 0) (cEnter (cRelAt σ K rel') p K 2 rel' (-1)) := by
      have e : cRelAt σ K rel' 5 K 9 = rel' := by unfold cRelAt; rw [up_nj (by decide), up_eq]
      have t := P32_2 (d := d + 1) (r0 := p) (r1 := K) (σ := σ) h4 (by rw [← hrel]; exact S46) S41
      rw [e] at t
      exact t
    -- the reference
    have cM : Sp (e + 2) 121 [.inr (some (7, 0)), .inl (nI K)] μ (rI 0) (if 0 < σ 5 K 5 then mq_up (mTimed (mq_up μ 13 43 K rel') K rel') 13 38 K (rel' + σ 5 K 5) else mTimed (mq_up μ 13 43 K rel') K rel') := by
      have s120 : Sp (e + 1) 120 [.inr (some (7, 0)), .inl (nI K), .inl (mq_up μ 13 43 (nI K).toNatClampNeg (μ 13 43 (nI K).toNatClampNeg + μ 13 34 (nI K).toNatClampNeg) 13 43 (nI K).toNatClampNeg)] (mq_up μ 13 43 (nI K).toNatClampNeg (μ 13 43 (nI K).toNatClampNeg + μ 13 34 (nI K).toNatClampNeg)) (.inl none) (mTimed (mq_up μ 13 43 K rel') K rel') := by
        rw [eK, e9, e4, up_eq, ← hrel]
        exact S120 hK
      have f5 : mTimed (mq_up μ 13 43 K rel') K rel' 13 35 (nI K).toNatClampNeg = σ 5 K 5 := by rw [eK]; exact e5
      have f9 : mTimed (mq_up μ 13 43 K rel') K rel' 13 43 (nI K).toNatClampNeg = rel' := by
        rw [eK]
        show mq_up μ 13 43 K rel' 13 43 K = rel'
        exact up_eq _ _ _ _ _
      by_cases h5 : 0 < σ 5 K 5
      · rw [if_pos h5]
        have t := P121_2 (d := e + 1) (σ := μ) (x1 := nI K) hkb (by rw [eK, e4]; exact h4) s120 (by rw [f5]; exact h5)
        rw [f9, f5, eK] at t
        exact t
      · rw [if_neg h5]
        exact P121_3 hkb (by rw [eK, e4]; exact h4) s120 (by rw [f5]; exact h5)
    have hPI := h.1.2.1 K hK
    -- alike
    have h2 : PK b σ0 μ0 (cRelAt σ K rel') (if 0 < σ 5 K 5 then mq_up (mq_up μ 13 43 K rel') 13 38 K (rel' + σ 5 K 5) else mq_up μ 13 43 K rel') := by
      have ha := rel_5 (j := 9) (f := 43) h.1 hK rfl (by decide) (Or.inr (Or.inr (Or.inl rfl))) rel'
      unfold cRelAt
      by_cases h5 : 0 < σ 5 K 5
      · rw [if_pos h5, if_pos h5]
        refine ⟨ha.1.both (lk_p' hK 8 38 rfl) _, fun K' hK' => ?_, og_eq ha.2.2 (fun k => up_nj (by decide)) (fun k => up_nj (by decide)) (fun k => up_nk (by decide)) (fun k => up_ni (by decide)) (up_nk (by decide))⟩
        obtain ⟨a1, a2, a3, a4⟩ := ha.2.1 K' hK'
        unfold PI
        rw [up_nj (j' := 7) (j := 8) (by decide), up_nj (j' := 5) (j := 8) (by decide), up_nj (j' := 11) (j := 8) (by decide), up_nj (j' := 10) (j := 8) (by decide)]
        by_cases ee : K' = K
        · rw [ee] at a3 a4 ⊢
          refine ⟨fun h0 => ?_, fun hn => absurd h5 (by rw [up_nj (by decide)] at hn; exact hn), a3, a4⟩
          rw [up_nj (by decide), hr] at h0
          exact absurd h0 (by decide)
        · have e8 : mq_up (mq_up σ 5 K 9 rel') 5 K 8 (rel' + σ 5 K 5) 5 K' 8 = mq_up σ 5 K 9 rel' 5 K' 8 := up_ni ee
          rw [e8]
          exact ⟨a1, a2, a3, a4⟩
      · rw [if_neg h5, if_neg h5]
        have e8 : mq_up (mq_up σ 5 K 9 rel') 5 K 8 (-1) = mq_up σ 5 K 9 rel' := up_same (by rw [up_nj (by decide)]; exact hPI.2.1 h5)
        rw [e8]
        exact ha
    have h7 : cRelAt σ K rel' 5 K 7 = 1 := by unfold cRelAt; rw [up_nj (by decide), up_nj (by decide)]; exact hr
    subst hK0
    have h3 := h2.timed (t := rel') hp hq h7
    have eM : (if 0 < σ 5 (8 * p + q) 5 then mq_up (mTimed (mq_up μ 13 43 (8 * p + q) rel') (8 * p + q) rel') 13 38 (8 * p + q) (rel' + σ 5 (8 * p + q) 5) else mTimed (mq_up μ 13 43 (8 * p + q) rel') (8 * p + q) rel') = mTimed (if 0 < σ 5 (8 * p + q) 5 then mq_up (mq_up μ 13 43 (8 * p + q) rel') 13 38 (8 * p + q) (rel' + σ 5 (8 * p + q) 5) else mq_up μ 13 43 (8 * p + q) rel') (8 * p + q) rel' := by
      by_cases h5 : 0 < σ 5 (8 * p + q) 5
      · rw [if_pos h5, if_pos h5]
        unfold mTimed
        rw [up_comm (k := 13) (i := 38) (k' := 13) (i' := 37) (by omega), up_comm (k := 13) (i := 38) (k' := 13) (i' := 39) (by omega)]
      · rw [if_neg h5, if_neg h5]
    rw [eM] at cM
    refine ⟨0, _, _, cC, cM, h.proc h3 (((PF.up (Or.inr (Or.inr ⟨rfl, by decide⟩))).tr (PF.up (Or.inr (Or.inr ⟨rfl, by decide⟩)))).tr pf_enter) (MF.tr ?_ mf_timed) (by omega), ?_, ?_, ?_, fun _ => rfl⟩
    · by_cases h5 : 0 < σ 5 (8 * p + q) 5
      · rw [if_pos h5]; exact (MF.up (Or.inr (Or.inl ⟨rfl, by decide⟩))).tr (MF.up (Or.inr (Or.inl ⟨rfl, by decide⟩)))
      · rw [if_neg h5]; exact MF.up (Or.inr (Or.inl ⟨rfl, by decide⟩))
    · rw [ce_j (by decide) (by decide) (by decide) (by decide)]
      unfold cRelAt
      rw [up_nj (by decide), up_nj (by decide)]
    · by_cases h5 : 0 < σ 5 (8 * p + q) 5
      · rw [if_pos h5]; rfl
      · rw [if_neg h5]; rfl
    · by_cases h5 : 0 < σ 5 (8 * p + q) 5
      · rw [if_pos h5]; rfl
      · rw [if_neg h5]; rfl
/-! 2: a span -/
theorem span01 : ∀ x : Int32, (¬ x < 0 ∧ ¬ 100000 < x) ↔ (¬ x < 0 ∧ x < 100001) := fun x => by
  have h1 : (100001 : Int32).toInt = 100001 := by decide
  have h2 : (100000 : Int32).toInt = 100000 := by decide
  rw [Int32.lt_iff_toInt_lt, Int32.lt_iff_toInt_lt, Int32.lt_iff_toInt_lt, h1, h2]
  omega
theorem S88 {x : Int32} : Sp (d + 1) 88 [.inl x] σ (rI (in01 x 100001)) σ := by
  by_cases h0 : x < 0
  · rw [in01_0 (fun c => c.1 h0)]; exact P88_1 h0
  · by_cases h1 : x < 100001
    · rw [in01_1 h0 h1]
      have := (span01 x).mpr ⟨h0, h1⟩
      exact P88_3 h0 this.2
    · rw [in01_0 (fun c => h1 c.2)]
      refine P88_2 h0 ?_
      exact Classical.byContradiction (fun h2 => h1 ((span01 x).mp ⟨h0, h2⟩).2)
theorem sv2 (h : KI b σ0 μ0 σ μ) (hp : p < 4) (hq : q < 8) (hr : σ 5 (8 * p + q) 7 = 1) {x : Int32} : SV b σ0 μ0 σ μ (8 * p + q) (Sp (d + 2) 33 [.inr (some (4, p)), .inr (some (5, 8 * p + q)), .inl x, .inl (σ 6 0 5)] σ) (Sp (e + 2) 122 [.inr (some (7, 0)), .inl (nI (8 * p + q)), .inl x] μ) := by
  have hK : 8 * p + q < 32 := by omega
  have ht : μ 7 0 2 = σ 6 0 5 := h.time
  by_cases hx : ¬ x < 0 ∧ x < 100001
  · refine ⟨0, _, _, P33_2 S88 (by rw [in01_1 hx.1 hx.2]; decide) S41, P122_2 S101 (by rw [in01_1 hx.1 hx.2]; decide) (by rw [ht]; exact S120 hK), h.proc (h.1.timed hp hq hr) pf_enter mf_timed (by omega), ce_j (by decide) (by decide) (by decide) (by decide), rfl, rfl, fun _ => rfl⟩
  · exact sv_same h 1 (P33_1 S88 (in01_0 hx)) (P122_1 S101 (in01_0 hx))
/-! 3, 4: others -/
theorem find_cases {x : Int32} (hN : N ≤ 8) (hc : σ 4 p 5 = nI N) (hm : μ 10 8 p = nI N) (hp : p < 4) : (∃ r, r < N ∧ x = nI r ∧ (∀ d, Sp (d + 1) 24 [.inr (some (4, p)), .inl x] σ (.inl (some (.inr (some (5, 8 * p + r))))) σ) ∧ in01 x (μ 10 8 (nI p).toNatClampNeg) = 1) ∨ ((∀ d, Sp (d + 1) 24 [.inr (some (4, p)), .inl x] σ (.inl (some (.inr none))) σ) ∧ in01 x (μ 10 8 (nI p).toNatClampNeg) = 0) := by
  have ep := nI_clamp (n := p) (by omega)
  rw [ep, hm]
  by_cases h0 : x < 0
  · exact Or.inr ⟨fun d => P24_1 h0, in01_0 (fun c => c.1 h0)⟩
  · by_cases h1 : x < nI N
    · obtain ⟨r, hr, rfl⟩ := of_lt (n := N) (by omega) h0 h1
      refine Or.inl ⟨r, hr, rfl, fun d => ?_, in01_1 h0 h1⟩
      have t := P24_2 (d := d) (r0 := p) (σ := σ) (x1 := nI r) h0 (by rw [hc]; exact h1) (nI_in (show r < 8 by omega) (by decide))
      rw [nI_clamp (by omega)] at t
      exact t
    · exact Or.inr ⟨fun d => P24_3 h0 (by rw [hc]; exact h1), in01_0 (fun c => h1 c.2)⟩
theorem sv3 (h : KI b σ0 μ0 σ μ) (hp : p < 4) (hr : σ 5 K 7 = 1) {x : Int32} : SV b σ0 μ0 σ μ K (Sp (d + 3) 34 [.inr (some (4, p)), .inl x, .inl (σ 6 0 5)] σ) (Sp (e + 3) 123 [.inr (some (7, 0)), .inl (nI p), .inl x] μ) := by
  obtain ⟨N, hN, hc⟩ := h.cnt hp
  have hm : μ 10 8 p = nI N := (h.1.1.cnt hp).trans hc
  have hpb : ¬ (nI p < 0 ∨ 4 ≤ (nI p).toNatClampNeg) := nI_in hp (by decide)
  rcases find_cases (x := x) hN hc hm hp with ⟨r, hr', rfl, s24, hin⟩ | ⟨s24, hin⟩
  · have h8b : ¬ (8 * nI p + nI r < 0 ∨ 32 ≤ (8 * nI p + nI r).toNatClampNeg) := by rw [ix8]; exact nI_in (by omega) (by decide)
    have e7 : μ 13 37 (8 * nI p + nI r).toNatClampNeg = σ 5 (8 * p + r) 7 := by rw [ix8, nI_clamp (by omega)]; exact h.1.1.st (by omega)
    by_cases h7 : σ 5 (8 * p + r) 7 = 0
    · have hne : K ≠ 8 * p + r := fun ee => by rw [ee, h7] at hr; exact absurd hr (by decide)
      refine ⟨0, _, _, P34_2 (s24 _) h7 S27, P123_2 hpb S101 (by rw [hin]; decide) h8b (by rw [e7]; exact h7) (by rw [ix8]; exact S103 (by omega)), h.proc (h.1.start hp (by omega) h.time.symm) pf_start mf_start (by omega), ?_, rfl, rfl, fun _ => rfl⟩
      show cEnter _ _ _ _ _ _ 5 K 6 = _
      rw [ce_ne hne]
      unfold cRelAt cReset
      rw [up_ni hne, up_ni hne, up_ni hne]
      unfold mq_zr
      rw [if_neg (by rintro ⟨h, -⟩; exact absurd h (by decide))]
    · exact sv_same h 1 (P34_3 (s24 _) h7) (P123_3 hpb S101 (by rw [hin]; decide) h8b (by rw [e7]; exact h7))
  · exact sv_same h 1 (P34_1 (s24 _)) (P123_1 hpb S101 hin)
theorem S87 {x : Int32} : Sp (d + 1) 87 [.inl x] σ (rI (in01 x 16)) σ := by
  have key : (¬ x < 0 ∧ ¬ 15 < x) ↔ (¬ x < 0 ∧ x < 16) := by
    have h1 : (16 : Int32).toInt = 16 := by decide
    have h2 : (15 : Int32).toInt = 15 := by decide
    rw [Int32.lt_iff_toInt_lt, Int32.lt_iff_toInt_lt, Int32.lt_iff_toInt_lt, h1, h2]
    omega
  by_cases h0 : x < 0
  · rw [in01_0 (fun c => c.1 h0)]; exact P87_1 h0
  · by_cases h1 : x < 16
    · rw [in01_1 h0 h1]
      exact P87_3 h0 (key.mpr ⟨h0, h1⟩).2
    · rw [in01_0 (fun c => h1 c.2)]
      exact P87_2 h0 (Classical.byContradiction (fun h2 => h1 (key.mp ⟨h0, h2⟩).2))
theorem sv4 (h : KI b σ0 μ0 σ μ) (hp : p < 4) {x y : Int32} : SV b σ0 μ0 σ μ K (Sp (d + 2) 35 [.inr (some (4, p)), .inl x, .inl y] σ) (Sp (e + 2) 124 [.inr (some (7, 0)), .inl (nI p), .inl x, .inl y] μ) := by
  obtain ⟨N, hN, hc⟩ := h.cnt hp
  have hm : μ 10 8 p = nI N := (h.1.1.cnt hp).trans hc
  have hpb : ¬ (nI p < 0 ∨ 4 ≤ (nI p).toNatClampNeg) := nI_in hp (by decide)
  rcases find_cases (x := x) hN hc hm hp with ⟨r, hr', rfl, s24, hin⟩ | ⟨s24, hin⟩
  · have h8b : ¬ (8 * nI p + nI r < 0 ∨ 32 ≤ (8 * nI p + nI r).toNatClampNeg) := by rw [ix8]; exact nI_in (by omega) (by decide)
    have e8 : (8 * nI p + nI r).toNatClampNeg = 8 * p + r := by rw [ix8]; exact nI_clamp (by omega)
    by_cases hy : ¬ y < 0 ∧ y < 16
    · have t := P124_3 (d := e + 1) (σ := μ) (x1 := nI p) (x2 := nI r) (x3 := y) hpb S101 (by rw [hin]; decide) S101 (by rw [in01_1 hy.1 hy.2]; decide) h8b
      rw [e8] at t
      exact ⟨0, _, _, P35_3 (s24 _) S87 (by rw [in01_1 hy.1 hy.2]; decide), t, (h.fld (j := 3) (by omega) rfl (by decide) (Or.inl rfl) y).mono (by omega), up_nj (by decide), rfl, rfl, fun _ => rfl⟩
    · exact sv_same h 1 (P35_2 (s24 _) S87 (in01_0 hy)) (P124_2 hpb S101 (by rw [hin]; decide) S101 (in01_0 hy))
  · exact sv_same h 1 (P35_1 (s24 _)) (P124_1 hpb S101 hin)
/-! 6, 7: semaphores -/
theorem KI.sem (h : KI b σ0 μ0 σ μ) (hbg : ¬ σ 6 0 7 = 0) (hp : p < 4) {s v : Nat} (hs : s < 4) (hv : v ≤ 1000) : KI b σ0 μ0 (mq_up σ 10 (2 * p) s (nI v)) (mq_up μ 12 1 (4 * p + s) (nI v)) := by
  obtain ⟨⟨h1, h2, h3⟩, ⟨c1, c2, c3, c4, c5⟩, h5⟩ := h
  refine ⟨⟨h1.both (lk_s hp hs) _, fun K hK => h2 K hK, og_eq h3 (fun _ => rfl) (fun _ => rfl) (fun _ => rfl) (fun _ => rfl) rfl⟩, ⟨?_, ⟨fun p' s' hp' hs' => ?_, fun h7 => absurd h7 hbg⟩, c3, c4, c5⟩, h5.frame (fun _ => rfl) (Nat.le_refl _)⟩
  · obtain ⟨g1, g2, g3, n, g4, g5⟩ := c1
    refine ⟨g1, g2, fun p' e hp' he => ?_, n, g4, g5⟩
    rw [up_ni (by omega)]
    exact g3 p' e hp' he
  · by_cases ee : p' = p ∧ s' = s
    · obtain ⟨rfl, rfl⟩ := ee
      exact ⟨v, hv, up_eq _ _ _ _ _⟩
    · rw [up_if, if_neg (by omega)]
      exact c2.1 p' s' hp' hs'
theorem sem_cases {x : Int32} : (∃ s, s < 4 ∧ x = nI s ∧ (∀ d σ, Sp (d + 1) 39 [.inl x] σ (rI 1) σ) ∧ in01 x 4 = 1) ∨ ((∀ d σ, Sp (d + 1) 39 [.inl x] σ (rI 0) σ) ∧ in01 x 4 = 0) := by
  by_cases h0 : x < 0
  · exact Or.inr ⟨fun d σ => P39_1 h0, in01_0 (fun c => c.1 h0)⟩
  · by_cases h1 : x < 4
    · obtain ⟨s, hs, rfl⟩ := of_lt (n := 4) (by decide) h0 h1
      exact Or.inl ⟨s, hs, rfl, fun d σ => P39_2 h0 h1, in01_1 h0 h1⟩
    · exact Or.inr ⟨fun d σ => P39_3 h0 h1, in01_0 (fun c => h1 c.2)⟩
theorem sv6 (h : KI b σ0 μ0 σ μ) (hbg : ¬ σ 6 0 7 = 0) (hp : p < 4) (hq : q < 8) (hr : σ 5 (8 * p + q) 7 = 1) {x : Int32} : SV b σ0 μ0 σ μ (8 * p + q) (Sp (d + 2) 36 [.inr (some (4, p)), .inr (some (5, 8 * p + q)), .inl x] σ) (Sp (e + 2) 125 [.inr (some (7, 0)), .inl (nI p), .inl (nI (8 * p + q)), .inl x] μ) := by
  have hK : 8 * p + q < 32 := by omega
  have eK := nI_clamp (n := 8 * p + q) (by omega)
  rcases sem_cases (x := x) with ⟨s, hs, rfl, s39, hin⟩ | ⟨s39, hin⟩
  · have es := nI_clamp (n := s) (by omega)
    have e4 : (4 * nI p + nI s).toNatClampNeg = 4 * p + s := by rw [ix4]; exact nI_clamp (by omega)
    have h4b : ¬ (4 * nI p + nI s < 0 ∨ 16 ≤ (4 * nI p + nI s).toNatClampNeg) := by rw [ix4]; exact nI_in (by omega) (by decide)
    have hsb : ¬ (nI s < 0 ∨ 4 ≤ (nI s).toNatClampNeg) := nI_in hs (by decide)
    obtain ⟨v, hv, ev⟩ := h.2.1.2.1.1 p s hp hs
    have ev' : μ 12 1 (4 * p + s) = nI v := (h.1.1.get (lk_s hp hs)).trans ev
    by_cases h0 : 0 < v
    · obtain ⟨u, rfl⟩ : ∃ u, v = u + 1 := ⟨v - 1, by omega⟩
      have hpos : (0 : Int32) < nI (u + 1) := (nI_ltI (a := 0) (by decide) (by omega)).mpr h0
      have t1 := P36_2 (d := d + 1) (r0 := p) (r1 := 8 * p + q) (σ := σ) (x2 := nI s) (s39 _ _) (by decide) hsb (by rw [es, ev]; exact hpos)
      rw [es, ev, nI_pred] at t1
      have t2 := P125_2 (d := e + 1) (σ := μ) (x1 := nI p) (x2 := nI (8 * p + q)) (x3 := nI s) S101 (by rw [hin]; decide) h4b (by rw [e4, ev']; exact hpos)
      rw [e4, ev', nI_pred] at t2
      exact ⟨0, _, _, t1, t2, (h.sem hbg hp hs (by omega)).mono (by omega), rfl, rfl, rfl, fun _ => rfl⟩
    · have hz : v = 0 := by omega
      subst hz
      have t2 := P125_3 (d := e + 1) (σ := μ) (x1 := nI p) (x2 := nI (8 * p + q)) (x3 := nI s) S101 (by rw [hin]; decide) h4b (by rw [e4, ev']; decide) (nI_in hK (by decide))
      rw [eK] at t2
      exact ⟨0, _, _, P36_3 (s39 _ _) (by decide) hsb (by rw [es, ev]; decide) S41, t2, h.proc (h.1.take hp hq hr) pf_enter mf_take (by omega), ce_j (by decide) (by decide) (by decide) (by decide), rfl, rfl, fun _ => rfl⟩
  · exact sv_same h 1 (P36_1 (s39 _ _) rfl) (P125_1 S101 hin)
theorem sv7 (h : KI b σ0 μ0 σ μ) (hb : b < 2 ^ 31) (hbg : ¬ σ 6 0 7 = 0) (hp : p < 4) {x : Int32} : SV b σ0 μ0 σ μ K (Sp (d + 3) 37 [.inr (some (4, p)), .inl x] σ) (Sp (e + 2) 126 [.inr (some (7, 0)), .inl (nI p), .inl x] μ) := by
  obtain ⟨N, hN, hc⟩ := h.cnt hp
  have hm : μ 10 8 p = nI N := (h.1.1.cnt hp).trans hc
  have ep := nI_clamp (n := p) (by omega)
  have hpb : ¬ (nI p < 0 ∨ 4 ≤ (nI p).toNatClampNeg) := nI_in hp (by decide)
  have hl : ¬ nI N < μ 10 8 (nI p).toNatClampNeg := by rw [ep, hm]; exact fun h => Int32.lt_irrefl h
  have hl0 : N = 0 → ¬ (0 : Int32) < μ 10 8 (nI p).toNatClampNeg := fun h0 => by subst h0; exact hl
  rcases sem_cases (x := x) with ⟨s, hs, rfl, s39, hin⟩ | ⟨s39, hin⟩
  · have es := nI_clamp (n := s) (by omega)
    have e4 : (4 * nI p + nI s).toNatClampNeg = 4 * p + s := by rw [ix4]; exact nI_clamp (by omega)
    have h4b : ¬ (4 * nI p + nI s < 0 ∨ 16 ≤ (4 * nI p + nI s).toNatClampNeg) := by rw [ix4]; exact nI_in (by omega) (by decide)
    have hsb : ¬ (nI s < 0 ∨ 4 ≤ (nI s).toNatClampNeg) := nI_in hs (by decide)
    obtain ⟨v, hv, ev⟩ := h.2.1.2.1.1 p s hp hs
    have ev' : μ 12 1 (4 * p + s) = nI v := (h.1.1.get (lk_s hp hs)).trans ev
    have s31 := S31 (d := d) (p := p) (σ := σ) (x1 := 3) (x2 := nI s) hN hc
    have hge := give_eq (a := nI s) h.1 hb hp hN
    cases hq : bst (okB μ p (nI s)) (ldM μ p) N with
    | none =>
      rw [hge, hq] at s31
      by_cases h1000 : v = 1000
      · subst h1000
        have cx : ∀ xs, Rn (e + 1) 126 15 [(0, .inr (some (7, 0))), (1, .inl (nI p)), (2, .inl (nI s)), (3, .inl (bI p (bst (okB μ p (nI s)) (ldM μ p) N))), (4, .inl (nI N)), (5, .inl xs)] [] μ (rI 1) μ := fun xs => by
          rw [hq]
          exact P126_15a_8 hpb hl rfl h4b (by rw [e4, ev']; rfl)
        refine sv_same h 1 (P37_3 (s39 _ _) (by decide) s31 hsb (by rw [es, ev]; decide)) (P126_2 S101 (by rw [hin]; decide) (L126 hp hN hm (fun h0 => ?_) cx))
        exact P126_15_8 hpb (hl0 h0) rfl h4b (by rw [e4, ev']; rfl)
      · have hlt : nI v < 1000 := (nI_ltI (b := 1000) (by omega) (by decide)).mpr (by omega)
        have hne : ¬ nI v = 1000 := fun ee => h1000 ((nI_eq (b := 1000) (by omega) (by decide)).mp ee)
        have t1 := P37_2 (d := d + 2) (r0 := p) (σ := σ) (x1 := nI s) (s39 _ _) (by decide) s31 hsb (by rw [es, ev]; exact hlt)
        rw [es, ev, nI_1] at t1
        have cx : ∀ xs, Rn (e + 1) 126 15 [(0, .inr (some (7, 0))), (1, .inl (nI p)), (2, .inl (nI s)), (3, .inl (bI p (bst (okB μ p (nI s)) (ldM μ p) N))), (4, .inl (nI N)), (5, .inl xs)] [] μ (rI 0) (mq_up μ 12 1 (4 * p + s) (nI (v + 1))) := fun xs => by
          rw [hq]
          have t := P126_15a_9 (d := e + 1) (σ := μ) (x1 := nI p) (x2 := nI s) (x3 := -1) (x4 := nI N) (x5 := xs) hpb hl rfl h4b (by rw [e4, ev']; exact hne)
          rw [e4, ev', nI_1] at t
          exact t
        refine ⟨0, _, _, t1, P126_2 S101 (by rw [hin]; decide) (L126 hp hN hm (fun h0 => ?_) cx), (h.sem hbg hp hs (by omega)).mono (by omega), rfl, rfl, rfl, fun _ => rfl⟩
        have t := P126_15_9 (d := e + 1) (σ := μ) (x1 := nI p) (x2 := nI s) (x3 := -1) (x4 := 0) hpb (hl0 h0) rfl h4b (by rw [e4, ev']; exact hne)
        rw [e4, ev', nI_1] at t
        exact t
    | some r =>
      rw [hge, hq] at s31
      have hrN := (bst_ok hq).1
      refine ⟨0, _, _, P37_4 (s39 _ _) (by decide) s31 S41, P126_2 S101 (by rw [hin]; decide) (L126 hp hN hm (fun h0 => absurd h0 (by omega)) (fun xs => ?_)), h.proc (h.1.ready hp (show r < 8 by omega)) pf_enter mf_ready (by omega), ce_j (by decide) (by decide) (by decide) (by decide), rfl, rfl, fun _ => rfl⟩
      rw [hq]
      exact P126_15a_10 hpb hl (nI_m1 (by omega)) (S102 (by omega))
  · exact sv_same h 1 (P37_1 (s39 _ _) rfl) (P126_1 S101 hin)
end SERV
