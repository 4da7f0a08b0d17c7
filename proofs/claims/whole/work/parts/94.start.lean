/-! At the start both are alike, and the law's run begins. -/
theorem rel_start0 : Rel (iF 32) (iF 32) (iF 32) (iF 32) := by
  refine ⟨fun k i j k' i' j' h => ?_, fun _ _ _ _ => rfl, fun _ _ _ _ => rfl, rfl⟩
  unfold lk at h
  split at h
  · split at h
    · split at h <;> first | (cases h; rfl) | cases h
    · cases h
  · split at h
    · rename_i hc; obtain ⟨rfl, rfl⟩ := hc; cases h; rfl
    · cases h
  · split at h
    · rename_i hc; obtain ⟨rfl, rfl⟩ := hc; cases h; rfl
    · cases h
  · split at h
    · split at h <;> first | (cases h; rfl) | cases h
    · cases h
  · split at h
    · rename_i hc
      obtain ⟨hi, hj⟩ := hc
      rcases lkF_cases hj with rfl | rfl | rfl | rfl | rfl | rfl | rfl | rfl | rfl | rfl | rfl <;> (cases h; first | rfl | (simp [iF, lkF, hi]))
    · cases h
  · split at h
    · rename_i hc
      subst hc
      split at h <;> first | (cases h; rfl) | cases h
    · cases h
  · split at h
    · split at h <;> (cases h; rfl)
    · cases h
  · split at h
    · cases h; rfl
    · cases h
  · split at h
    · rename_i hc
      cases h
      have e : iF 32 13 i j = 0 := by
        have n1 : ¬ (i = 38 ∨ i = 39 ∨ i = 40) := by omega
        simp [iF, n1]
      rw [e]; rfl
    · cases h
  · split at h
    · cases h; rfl
    · cases h
  · cases h
theorem start_JI : JI 0 (iF 32) := by
  refine ⟨⟨⟨rel_start0, fun K hK => ⟨fun _ => rfl, fun _ => rfl, fun _ => rfl, fun _ => rfl⟩, 0, Nat.le_refl _, rfl, fun p hp => ⟨0, fun _ => 0, fun _ => 0, Nat.le_refl _, rfl, fun q hq hs => ?_, fun q r hq hr hs => ?_⟩⟩, ⟨?_, ?_, fun p j i hp hj hi => ?_, fun ch hch => ?_, ?_⟩, ?_⟩, fun _ => ⟨fun K hK => rfl, fun ch hch => ⟨rfl, rfl, rfl⟩⟩⟩
  · have e : iF 32 5 (8 * p + q) 7 = 0 := rfl
    dsimp only at hs
    rw [e] at hs
    exact absurd hs (by decide)
  · have e : iF 32 5 (8 * p + q) 7 = 0 := rfl
    dsimp only at hs
    rw [e] at hs
    exact absurd hs (by decide)
  · refine ⟨fun p hp => ⟨rfl, 0, by decide, rfl⟩, fun p q hp hq => ?_, fun p e hp he => ⟨0, by decide, rfl⟩, 0, by decide, rfl⟩
    show nI ((8 * p + q) % 8) = nI q
    rw [show (8 * p + q) % 8 = q by omega]
  · exact ⟨fun p s hp hs => ⟨0, by decide, rfl⟩, fun _ p s hp hs => rfl⟩
  · have e : ∀ i, i < 4 → (0 : Int32) = Int8.toInt32 (Int32.toInt8 ((0 : Int32) >>> (nI (8 * i) &&& 31))) := by decide
    exact e i hi
  · exact ⟨0, 0, by decide, by decide, rfl, rfl, fun j hj => absurd hj (by omega), fun _ => ⟨rfl, by decide, fun _ => rfl, fun z => absurd z (by decide)⟩, fun z => absurd rfl z⟩
  · exact ⟨0, 0, 0, 0, fun _ => 0, by decide, by decide, rfl, rfl, rfl, rfl, rfl, fun j hj => absurd hj (by omega), fun _ => ⟨rfl, rfl, rfl⟩, fun z => absurd rfl z⟩
  · exact ⟨0, by decide, rfl, rfl, rfl⟩
theorem rg_start : RG pr (prA 4 8 32) := fun k i j h => by
  unfold prA
  by_cases h20 : k = 20
  · subst h20
    have hj : j < 4 := h rfl
    rw [if_pos rfl, if_pos (Or.inr hj)]
    rfl
  · by_cases h21 : k = 21
    · subst h21
      have hj : j < 8 := h rfl
      rw [if_neg (by decide), if_pos rfl, if_pos (Or.inr hj)]
      rfl
    · by_cases h22 : k = 22
      · subst h22
        have hj : j < 8 := h rfl
        rw [if_neg (by decide), if_neg (by decide), if_pos rfl, if_pos ⟨hj, by omega⟩]
        rfl
      · rw [if_neg h20, if_neg h21, if_neg h22]
section START
variable {L pc pc1 a nx cs ss cs1 ss1 : Nat} {xs : Nat → Int32} {lv lv1 : List (Nat × mLV)} {st st1 : List mAV} {M M1 M2 : mMm} {w : Option mLV} {as : List mLV} {e : mEn}
def LG (L : Nat) (xs : Nat → Int32) (pc : Nat) (lv : List (Nat × mLV)) (st : List mAV) (M : mMm) (cs ss : Nat) : Prop := ∃ F0 n, ∀ F f, F0 ≤ F → ∃ M', pLL F L xs (f + n) pc lv st M cs ss = some (.inl (some (.inl 1)), M')
theorem LN.lg {c : Nat → Nat} {ρ : mSg} {τ : mLg} {g : Nat → Nat → Nat → mRf} (h : LN L xs c pc lv st ρ τ cs ss) (hg : RG pr g) : LG L xs pc lv st (c, ρ, g, τ) cs ss := by
  obtain ⟨F0, n, h⟩ := h
  refine ⟨F0, n, fun F f hF => ?_⟩
  obtain ⟨M', h⟩ := h F f hF
  obtain ⟨g', e, -⟩ := law_rg hg _ _ h
  exact ⟨_, e⟩
theorem lg_1 (hl : mq_lk pc pl_cd = some e) (hT : ∀ call go, pl1 L xs e call go pc lv st M cs ss = go pc1 lv1 st1 M1 cs1 ss1) (h : LG L xs pc1 lv1 st1 M1 cs1 ss1) : LG L xs pc lv st M cs ss := by
  obtain ⟨F0, n, h⟩ := h
  refine ⟨F0, n + 1, fun F f hF => ?_⟩
  rw [← Nat.add_assoc, pl_step hl, hT]
  exact h F f hF
theorem lg_c (hl : mq_lk pc pl_cd = some e) (hT : ∀ call go, pl1 L xs e call go pc lv st M cs ss = mq_ks (call a as M) (fun w M => go nx lv (mq_psh w st1) M cs1 ss1)) (hs : Cs 9 a as M (.inl w, M2)) (hp : ∀ F M, pl_call F a as M = pX F 9 a as M) (h : LG L xs nx lv (mq_psh w st1) M2 cs1 ss1) : LG L xs pc lv st M cs ss := by
  obtain ⟨F0, n, h⟩ := h
  obtain ⟨F1, hs⟩ := hs
  refine ⟨F0 + F1, n + 1, fun F f hF => ?_⟩
  rw [← Nat.add_assoc, pl_step hl, hT, hp, hs F (by omega), ks_some]
  exact h F f (by omega)
theorem cr_n {f : Nat → Nat → Nat → mRf} {k i : Nat} (h : ∀ j, f k i j = none) : mq_cr f k i none = f := by
  funext a b c
  unfold mq_cr
  split
  · rename_i e; obtain ⟨rfl, rfl⟩ := e; exact (h c).symm
  · rfl
theorem law_start (hL : L ≤ 3072) : LG L xs 0 [(0, .inr (some (999, 0)))] [] (mq_M0 (iF 0, prA 0 0 0, Zl)) 0 0 := by
  obtain ⟨c1, ⟨a10, a13, a11, a14, ao⟩, s70⟩ := ctor70 (d := 6) (c := cu (fun _ => 0) 6) (fun k hk => cu_ne hk)
  have b : ∀ k, k ≠ 7 → cu c1 7 k = c1 k := fun k hk => cu_ne hk
  obtain ⟨c2, a40, s99⟩ := ctor99 (d := 8) (c := cu c1 7) ((b 10 (by decide)).trans a10) ((b 11 (by decide)).trans a11) ((b 12 (by decide)).trans (ao 12 (by omega))) ((b 13 (by decide)).trans a13) ((b 14 (by decide)).trans a14) ((b 16 (by decide)).trans (ao 16 (by omega))) ((b 30 (by decide)).trans (ao 30 (by omega))) ((b 31 (by decide)).trans (ao 31 (by omega))) ((b 32 (by decide)).trans (ao 32 (by omega)))
  have h7 : c1 7 = 0 := ao 7 (by omega)
  have h40 : c2 40 = 0 := a40.trans ((b 40 (by decide)).trans (ao 40 (by omega)))
  refine lg_1 (pc1 := 3) (lv1 := [(0, .inr (some (999, 0)))]) (st1 := [.inr (.inl (some (6, 0)))]) (M1 := (cu (fun _ => 0) 6, mq_cr (iF 0) 6 0 0, mq_cr (prA 0 0 0) 6 0 none, mq_cr Zl 6 0 0)) (cs1 := 1) (ss1 := 8) k_0 (fun _ _ => rfl) ?_
  refine lg_1 (pc1 := 4) (lv1 := [(0, .inr (some (999, 0)))]) (st1 := [.inr (.inl (some (6, 0))), .inr (.inl (some (6, 0)))]) (cs1 := 1) (ss1 := 8) k_3 (fun _ _ => rfl) ?_
  refine lg_c (a := 70) (nx := 7) (st1 := [.inr (.inl (some (6, 0)))]) (cs1 := 115) (ss1 := 3032) k_4 (fun _ _ => rfl) s70 (fun _ _ => rfl) ?_
  refine lg_1 (pc1 := 8) (lv1 := [(0, .inr (some (999, 0))), (1, .inr (some (6, 0)))]) (st1 := []) (cs1 := 115) (ss1 := 3032) k_7 (fun _ _ => rfl) ?_
  have T : ∀ call go, pl1 L xs (8, .new 42, 11, 7, 0, 0, 0) call go 8 [(0, .inr (some (999, 0))), (1, .inr (some (6, 0)))] [] (c1, iF 0, prA 4 8 32, Zl) 115 3032 = go 11 [(0, .inr (some (999, 0))), (1, .inr (some (6, 0)))] [.inr (.inl (some (7, c1 7)))] (cu c1 7, mq_cr (iF 0) 7 (c1 7) 0, mq_cr (prA 4 8 32) 7 (c1 7) none, mq_cr Zl 7 (c1 7) 0) 116 3076 := fun _ _ => rfl
  rw [h7] at T
  refine lg_1 k_8 T ?_
  refine lg_1 (pc1 := 12) (lv1 := [(0, .inr (some (999, 0))), (1, .inr (some (6, 0)))]) (st1 := [.inr (.inl (some (7, 0))), .inr (.inl (some (7, 0)))]) (cs1 := 116) (ss1 := 3076) k_11 (fun _ _ => rfl) ?_
  refine lg_c (a := 99) (nx := 15) (st1 := [.inr (.inl (some (7, 0)))]) (cs1 := 148) (ss1 := 9008) k_12 (fun _ _ => rfl) s99 (fun _ _ => rfl) ?_
  refine lg_1 (pc1 := 16) (lv1 := [(0, .inr (some (999, 0))), (1, .inr (some (6, 0))), (2, .inr (some (7, 0)))]) (st1 := []) (cs1 := 148) (ss1 := 9008) k_15 (fun _ _ => rfl) ?_
  refine lg_1 (pc1 := 17) (lv1 := [(0, .inr (some (999, 0))), (1, .inr (some (6, 0))), (2, .inr (some (7, 0)))]) (st1 := [.inl 1]) (cs1 := 148) (ss1 := 9008) k_16 (fun _ _ => rfl) ?_
  have T2 : ∀ call go, pl1 L xs (17, .newarray .long, 19, 40, 0, 0, 0) call go 17 [(0, .inr (some (999, 0))), (1, .inr (some (6, 0))), (2, .inr (some (7, 0)))] [.inl 1] (c2, iF 32, prA 4 8 32, Zl) 148 9008 = go 19 [(0, .inr (some (999, 0))), (1, .inr (some (6, 0))), (2, .inr (some (7, 0)))] [.inr (.inl (some (40, c2 40)))] (cu c2 40, mq_cr (iF 32) 40 (c2 40) 0, mq_cr (prA 4 8 32) 40 (c2 40) none, mq_cr Zl 40 (c2 40) 0) 149 9009 := fun _ _ => rfl
  rw [h40, cr_z (k := 40) (fun j => iF_z (by decide) (by decide) (by decide) (by decide) 32 0 j), cr_n (f := prA 4 8 32) (k := 40) (i := 0) (fun j => pr_40 0 j), Zl_cr] at T2
  refine lg_1 k_17 T2 ?_
  refine lg_1 (pc1 := 20) (lv1 := [(0, .inr (some (999, 0))), (1, .inr (some (6, 0))), (2, .inr (some (7, 0))), (3, .inr (some (40, 0)))]) (st1 := []) (cs1 := 149) (ss1 := 9009) k_19 (fun _ _ => rfl) ?_
  refine lg_1 (pc1 := 21) (lv1 := [(0, .inr (some (999, 0))), (1, .inr (some (6, 0))), (2, .inr (some (7, 0))), (3, .inr (some (40, 0)))]) (st1 := [.inl 0]) (cs1 := 149) (ss1 := 9009) k_20 (fun _ _ => rfl) ?_
  refine lg_1 (pc1 := 23) (lv1 := lb (nI 0) []) (st1 := []) (cs1 := 149) (ss1 := 9009) k_21 (fun _ _ => rfl) ?_
  exact (law_loop hL 512 0 0 149 9009 [] (iF 32) Zl (by omega) (by omega) start_JI (by decide) (by decide) (by decide)).lg rg_start
end START
theorem pl_run {L : Nat} (xs : Nat → Int32) (hL : L ≤ 3072) : ∃ F M', pLaw F L xs (iF 0, prA 0 0 0, Zl) = some (.inl (some (.inl 1)), M') := by
  obtain ⟨F0, n, h⟩ := law_start (xs := xs) hL
  obtain ⟨M', h⟩ := h (F0 + n) F0 (by omega)
  exact ⟨F0 + n, M', h⟩
