/-! The kernel's constructor. -/
section CK
variable {d p a b n cs ss : Nat} {x y : Int32} {c : Nat → Nat} {σ : mSg} {g : Nat → Nat → Nat → mRf} {τ : mLg} {M : mMm}
theorem c70a (F f : Nat) : pC F d 70 (f + 14) 0 [(0, .inr (some (6, 0)))] [] (c, σ, g, τ) 0 0 = mq_ks (pX F d 11 [.inr (some (2, c 2))] (cu (cu (cu c 20) 21) 2, mq_cr (mq_cr (mq_cr σ 20 (c 20) 0) 21 (c 21) 0) 2 (c 2) 0, mq_cr (mq_up (mq_cr (mq_up (mq_cr g 20 (c 20) none) 6 0 0 (some (20, c 20))) 21 (c 21) none) 6 0 1 (some (21, c 21))) 2 (c 2) none, mq_cr (mq_cr (mq_cr τ 20 (c 20) 0) 21 (c 21) 0) 2 (c 2) 0)) (fun w M => pC F d 70 f 29 [(0, .inr (some (6, 0)))] (mq_psh w [.inr (.inl (some (2, c 2))), .inr (.inl (some (6, 0)))]) M 5 33) := rfl
theorem c70b {m : Nat} (F f : Nat) : pC F d 70 (f + 5) 29 [(0, .inr (some (6, 0)))] [.inr (.inl (some (2, m))), .inr (.inl (some (6, 0)))] (c, σ, g, τ) 5 33 = mq_ks (pX F d 8 [.inr (some (1, c 1))] (cu c 1, mq_cr σ 1 (c 1) 0, mq_cr (mq_up g 6 0 2 (some (2, m))) 1 (c 1) none, mq_cr τ 1 (c 1) 0)) (fun w M => pC F d 70 f 40 [(0, .inr (some (6, 0)))] (mq_psh w [.inr (.inl (some (1, c 1))), .inr (.inl (some (6, 0)))]) M 10 296) := rfl
theorem c70c {m : Nat} (F f : Nat) : pC F d 70 (f + 3) 40 [(0, .inr (some (6, 0)))] [.inr (.inl (some (1, m))), .inr (.inl (some (6, 0)))] (c, σ, g, τ) 10 296 = pC F d 70 f 45 [(0, .inr (some (6, 0))), (1, .inl 0)] [] (c, σ, mq_up g 6 0 3 (some (1, m)), τ) 10 296 := rfl
theorem c70d (F f : Nat) : pC F d 70 (f + 3) 45 [(0, .inr (some (6, 0))), (1, .inl y)] [] M cs ss = if y < 4 then pC F d 70 f 50 [(0, .inr (some (6, 0))), (1, .inl y)] [] M cs ss else pC F d 70 f 70 [(0, .inr (some (6, 0))), (1, .inl y)] [] M cs ss := rfl
theorem c70e (F f : Nat) : pC F d 70 (f + 7) 50 [(0, .inr (some (6, 0))), (1, .inl y)] [] (c, σ, g, τ) cs ss = if cs + 1 ≤ 114 ∧ ss + 9 ≤ 3024 then (if cs + 1 + 21 ≤ 114 ∧ ss + 9 + 641 ≤ 3024 then mq_ks (pX F d 22 [.inr (some (4, c 4)), .inl y] (cu c 4, mq_cr σ 4 (c 4) 0, mq_cr g 4 (c 4) none, mq_cr τ 4 (c 4) 0)) (fun w M => pC F d 70 f 63 [(0, .inr (some (6, 0))), (1, .inl y)] (mq_psh w [.inr (.inl (some (4, c 4))), .inl y, .inr (.inl (g 6 0 0))]) M (cs + 1 + 21) (ss + 9 + 641)) else none) else none := rfl
theorem c70f {K m : Nat} (F f : Nat) : pC F d 70 (f + 3) 63 [(0, .inr (some (6, 0))), (1, .inl y)] [.inr (.inl (some (4, K))), .inl y, .inr (.inl (some (20, m)))] (c, σ, g, τ) cs ss = if y < 0 ∨ 4 ≤ y.toNatClampNeg then none else pC F d 70 f 45 [(0, .inr (some (6, 0))), (1, .inl (y + 1))] [] (c, σ, mq_up g 20 m y.toNatClampNeg (some (4, K)), τ) cs ss := rfl
theorem c70g (F f : Nat) : pC F d 70 (f + 2) 70 [(0, .inr (some (6, 0))), (1, .inl y)] [] M cs ss = pC F d 70 f 72 [(0, .inr (some (6, 0))), (1, .inl 0)] [] M cs ss := rfl
theorem c70h (F f : Nat) : pC F d 70 (f + 3) 72 [(0, .inr (some (6, 0))), (1, .inl y)] [] M cs ss = if y < 8 then pC F d 70 f 78 [(0, .inr (some (6, 0))), (1, .inl y)] [] M cs ss else pC F d 70 f 97 [(0, .inr (some (6, 0))), (1, .inl y)] [] M cs ss := rfl
theorem c70i (F f : Nat) : pC F d 70 (f + 6) 78 [(0, .inr (some (6, 0))), (1, .inl y)] [] (c, σ, g, τ) cs ss = if cs + 1 ≤ 114 ∧ ss + 8 ≤ 3024 then (if cs + 1 + 1 ≤ 114 ∧ ss + 8 + 8 ≤ 3024 then mq_ks (pX F d 1 [.inr (some (0, c 0))] (cu c 0, mq_cr σ 0 (c 0) 0, mq_cr g 0 (c 0) none, mq_cr τ 0 (c 0) 0)) (fun w M => pC F d 70 f 90 [(0, .inr (some (6, 0))), (1, .inl y)] (mq_psh w [.inr (.inl (some (0, c 0))), .inl y, .inr (.inl (g 6 0 1))]) M (cs + 1 + 1) (ss + 8 + 8)) else none) else none := rfl
theorem c70j {K m : Nat} (F f : Nat) : pC F d 70 (f + 3) 90 [(0, .inr (some (6, 0))), (1, .inl y)] [.inr (.inl (some (0, K))), .inl y, .inr (.inl (some (21, m)))] (c, σ, g, τ) cs ss = if y < 0 ∨ 8 ≤ y.toNatClampNeg then none else pC F d 70 f 72 [(0, .inr (some (6, 0))), (1, .inl (y + 1))] [] (c, σ, mq_up g 21 m y.toNatClampNeg (some (0, K)), τ) cs ss := rfl
theorem c70k (F f : Nat) : pC F d 70 (f + 1) 97 [(0, .inr (some (6, 0))), (1, .inl y)] [] M cs ss = some (.inl none, M) := rfl
theorem prA_20 {i j : Nat} : prA a b n 20 i j = if 1 ≤ i ∨ j < a then some (4, j) else none := rfl
theorem prA_21 {i j : Nat} : prA a b n 21 i j = if 1 ≤ i ∨ j < b then some (0, j) else none := rfl
theorem pa_20 : mq_up (prA a b n) 20 0 a (some (4, a)) = prA (a + 1) b n := by
  funext k i j
  by_cases e : k = 20
  · subst e
    rw [prA_20]
    show (if 20 = 20 ∧ i = 0 ∧ j = a then some (4, a) else prA a b n 20 i j) = _
    by_cases e2 : i = 0 ∧ j = a
    · obtain ⟨rfl, rfl⟩ := e2
      rw [if_pos ⟨rfl, rfl, rfl⟩, if_pos (by omega)]
    · rw [if_neg (fun z => e2 z.2), prA_20]
      by_cases e3 : 1 ≤ i ∨ j < a
      · rw [if_pos e3, if_pos (by omega)]
      · rw [if_neg e3, if_neg (by omega)]
  · rw [up_nk' e]
    unfold prA
    rw [if_neg e, if_neg e]
theorem pa_21 : mq_up (prA a b n) 21 0 b (some (0, b)) = prA a (b + 1) n := by
  funext k i j
  by_cases e : k = 21
  · subst e
    rw [prA_21]
    show (if 21 = 21 ∧ i = 0 ∧ j = b then some (0, b) else prA a b n 21 i j) = _
    by_cases e2 : i = 0 ∧ j = b
    · obtain ⟨rfl, rfl⟩ := e2
      rw [if_pos ⟨rfl, rfl, rfl⟩, if_pos (by omega)]
    · rw [if_neg (fun z => e2 z.2), prA_21]
      by_cases e3 : 1 ≤ i ∨ j < b
      · rw [if_pos e3, if_pos (by omega)]
      · rw [if_neg e3, if_neg (by omega)]
  · rw [up_nk' e]
    unfold prA
    rw [if_neg e, if_neg e]
theorem loopC : ∀ (m i : Nat) (c : Nat → Nat), i + m = 8 → c 0 = i → c 11 = 2 + i → ∃ c', (c' 11 = 10 ∧ ∀ k, k ≠ 0 → k ≠ 11 → c' k = c k) ∧ Cn (d + 1) 70 72 [(0, .inr (some (6, 0))), (1, .inl (nI i))] [] (c, iF 0, prA a i n, Zl) (98 + 2 * i) (2896 + 16 * i) (.inl none, (c', iF 0, prA a 8 n, Zl))
  | 0, i, c, hi, h0, h11 => by
    have ee : i = 8 := by omega
    subst ee
    exact ⟨c, ⟨h11, fun _ _ _ => rfl⟩, cn_go (N := 3) (pc1 := 97) (fun F f => (c70h F f).trans (if_neg (by decide))) (cn_ret (N := 1) (fun F f => c70k F f))⟩
  | m + 1, i, c, hi, h0, h11 => by
    have e11 : cu c 0 11 = 2 + i := (cu_ne (by decide)).trans h11
    obtain ⟨c', ⟨k1, k2⟩, h⟩ := loopC m (i + 1) (cu (cu c 0) 11) (by omega) (by rw [cu_ne (by decide), cu_eq, h0]) (by rw [cu_eq, e11]; omega)
    refine ⟨c', ⟨k1, fun k n0 n11 => by rw [k2 k n0 n11, cu_ne n11, cu_ne n0]⟩, ?_⟩
    have hi8 : i < 8 := by omega
    refine cn_go (N := 3) (fun F f => (c70h F f).trans (if_pos ((nI_ltI (b := 8) (by omega) (by decide)).mpr hi8))) ?_
    have T : ∀ F f, pC F (d + 1) 70 (f + 6) 78 [(0, .inr (some (6, 0))), (1, .inl (nI i))] [] (c, iF 0, prA a i n, Zl) (98 + 2 * i) (2896 + 16 * i) = _ := fun F f => (c70i F f).trans ((if_pos (by omega)).trans (if_pos (by omega)))
    rw [h0] at T
    refine cn_call T (ctor1 (d := d) (a := a) (b := i) (n := n) e11) ?_
    have T2 : ∀ F f, pC F (d + 1) 70 (f + 3) 90 [(0, .inr (some (6, 0))), (1, .inl (nI i))] [.inr (.inl (some (0, i))), .inl (nI i), .inr (.inl (some (21, 0)))] (cu (cu c 0) 11, iF 0, prA a i n, Zl) (98 + 2 * i + 1 + 1) (2896 + 16 * i + 8 + 8) = _ := fun F f => (c70j F f).trans (if_neg (nI_in hi8 (by decide)))
    rw [nI_clamp (by omega), pa_21, nI_1] at T2
    refine cn_go T2 ?_
    rw [show 98 + 2 * i + 1 + 1 = 98 + 2 * (i + 1) by omega, show 2896 + 16 * i + 8 + 8 = 2896 + 16 * (i + 1) by omega]
    exact h
theorem loopP : ∀ (m p : Nat) (c : Nat → Nat), p + m = 4 → c 4 = p → c 3 = p → c 15 = p → c 22 = p → c 10 = 2 * p → c 5 = 8 * p → c 13 = 8 * p → ∃ c', (c' 10 = 8 ∧ c' 13 = 32 ∧ ∀ k, k ≠ 3 → k ≠ 4 → k ≠ 15 → k ≠ 22 → k ≠ 10 → k ≠ 5 → k ≠ 13 → c' k = c k) ∧ ∀ r, Cn (d + 2) 70 70 [(0, .inr (some (6, 0))), (1, .inl (nI 4))] [] (c', iF 0, prA 4 0 32, Zl) 98 2896 r → Cn (d + 2) 70 45 [(0, .inr (some (6, 0))), (1, .inl (nI p))] [] (c, iF 0, prA p 0 (8 * p), Zl) (10 + 22 * p) (296 + 650 * p) r
  | 0, p, c, hp, h4, h3, h15, h22, h10, h5, h13 => by
    have ee : p = 4 := by omega
    subst ee
    exact ⟨c, ⟨h10, h13, fun _ _ _ _ _ _ _ _ => rfl⟩, fun r h => cn_go (N := 3) (pc1 := 70) (fun F f => (c70d F f).trans (if_neg (by decide))) h⟩
  | m + 1, p, c, hp, h4, h3, h15, h22, h10, h5, h13 => by
    have hp4 : p < 4 := by omega
    obtain ⟨c1, ⟨j3, j15, j22, j10, j5, j13, jo⟩, s22⟩ := ctor22 (d := d) (a := p) (c := cu c 4) hp4 (by rw [cu_ne (by decide)]; exact h3) (by rw [cu_ne (by decide)]; exact h15) (by rw [cu_ne (by decide)]; exact h22) (by rw [cu_ne (by decide)]; exact h10) (by rw [cu_ne (by decide)]; exact h5) (by rw [cu_ne (by decide)]; exact h13)
    obtain ⟨c', ⟨k1, k2, k3⟩, h⟩ := loopP m (p + 1) c1 (by omega) (by rw [jo 4 (by decide) (by decide) (by decide) (by decide) (by decide) (by decide), cu_eq, h4]) j3 j15 j22 (by rw [j10]; omega) (by rw [j5]; omega) (by rw [j13]; omega)
    refine ⟨c', ⟨k1, k2, fun k n3 n4 n15 n22 n10 n5 n13 => by rw [k3 k n3 n4 n15 n22 n10 n5 n13, jo k n3 n15 n22 n10 n5 n13, cu_ne n4]⟩, fun r hr => ?_⟩
    refine cn_go (N := 3) (fun F f => (c70d F f).trans (if_pos ((nI_ltI (b := 4) (by omega) (by decide)).mpr hp4))) ?_
    have T : ∀ F f, pC F (d + 2) 70 (f + 7) 50 [(0, .inr (some (6, 0))), (1, .inl (nI p))] [] (c, iF 0, prA p 0 (8 * p), Zl) (10 + 22 * p) (296 + 650 * p) = _ := fun F f => (c70e F f).trans ((if_pos (by omega)).trans (if_pos (by omega)))
    rw [h4] at T
    refine cn_call T s22 ?_
    have T2 : ∀ F f, pC F (d + 2) 70 (f + 3) 63 [(0, .inr (some (6, 0))), (1, .inl (nI p))] [.inr (.inl (some (4, p))), .inl (nI p), .inr (.inl (some (20, 0)))] (c1, iF 0, prA p 0 (8 * p + 8), Zl) (10 + 22 * p + 1 + 21) (296 + 650 * p + 9 + 641) = _ := fun F f => (c70f F f).trans (if_neg (nI_in hp4 (by decide)))
    rw [nI_clamp (by omega), pa_20, nI_1] at T2
    refine cn_go T2 ?_
    rw [show 10 + 22 * p + 1 + 21 = 10 + 22 * (p + 1) by omega, show 296 + 650 * p + 9 + 641 = 296 + 650 * (p + 1) by omega, show 8 * p + 8 = 8 * (p + 1) by omega]
    exact h r hr
theorem iF_z {k : Nat} (n0 : k ≠ 0) (n4 : k ≠ 4) (n5 : k ≠ 5) (n13 : k ≠ 13) (m i j : Nat) : iF m k i j = 0 := by simp [iF, n0, n4, n5, n13]
theorem ctor70 (hc : ∀ k, k ≠ 6 → c k = 0) : ∃ c', (c' 10 = 8 ∧ c' 13 = 32 ∧ c' 11 = 10 ∧ c' 14 = 4 ∧ ∀ k, k = 7 ∨ k = 12 ∨ k = 16 ∨ k = 30 ∨ k = 31 ∨ k = 32 ∨ k = 40 → c' k = 0) ∧ Cs (d + 3) 70 [.inr (some (6, 0))] (c, mq_cr (iF 0) 6 0 0, mq_cr (prA 0 0 0) 6 0 none, mq_cr Zl 6 0 0) (.inl none, (c', iF 0, prA 4 8 32, Zl)) := by
  -- counts behind frame and log
  have e0 : ∀ k, k ≠ 6 → k ≠ 20 → k ≠ 21 → k ≠ 2 → k ≠ 11 → k ≠ 1 → k ≠ 14 → cu (cu (cu (cu (cu (cu (cu (cu (cu (cu c 20) 21) 2) 11) 11) 1) 14) 14) 14) 14 k = 0 := fun k n6 n20 n21 n2 n11 n1 n14 => by
    rw [cu_ne n14, cu_ne n14, cu_ne n14, cu_ne n14, cu_ne n1, cu_ne n11, cu_ne n11, cu_ne n2, cu_ne n21, cu_ne n20]
    exact hc k n6
  have z : ∀ k, (k = 3 ∨ k = 4 ∨ k = 15 ∨ k = 22 ∨ k = 10 ∨ k = 5 ∨ k = 13 ∨ k = 0 ∨ k = 7 ∨ k = 12 ∨ k = 16 ∨ k = 30 ∨ k = 31 ∨ k = 32 ∨ k = 40) → cu (cu (cu (cu (cu (cu (cu (cu (cu (cu c 20) 21) 2) 11) 11) 1) 14) 14) 14) 14 k = 0 := fun k hk => e0 k (by omega) (by omega) (by omega) (by omega) (by omega) (by omega) (by omega)
  obtain ⟨c1, ⟨a1, a2, a3⟩, hP⟩ := loopP (d := d) 4 0 (cu (cu (cu (cu (cu (cu (cu (cu (cu (cu c 20) 21) 2) 11) 11) 1) 14) 14) 14) 14) rfl (z 4 (by omega)) (z 3 (by omega)) (z 15 (by omega)) (z 22 (by omega)) (z 10 (by omega)) (z 5 (by omega)) (z 13 (by omega))
  have a11 : c1 11 = 2 := by
    rw [a3 11 (by decide) (by decide) (by decide) (by decide) (by decide) (by decide) (by decide), cu_ne (by decide), cu_ne (by decide), cu_ne (by decide), cu_ne (by decide), cu_ne (by decide), cu_eq, cu_eq, cu_ne (by decide), cu_ne (by decide), cu_ne (by decide), hc 11 (by decide)]
  have a14 : c1 14 = 4 := by
    rw [a3 14 (by decide) (by decide) (by decide) (by decide) (by decide) (by decide) (by decide), cu_eq, cu_eq, cu_eq, cu_eq, cu_ne (by decide), cu_ne (by decide), cu_ne (by decide), cu_ne (by decide), cu_ne (by decide), cu_ne (by decide), hc 14 (by decide)]
  have a0 : c1 0 = 0 := by
    rw [a3 0 (by decide) (by decide) (by decide) (by decide) (by decide) (by decide) (by decide)]
    exact z 0 (by omega)
  obtain ⟨c', ⟨b1, b2⟩, hC⟩ := loopC (d := d + 1) (a := 4) (n := 32) 8 0 c1 rfl a0 a11
  refine ⟨c', ⟨by rw [b2 10 (by decide) (by decide)]; exact a1, by rw [b2 13 (by decide) (by decide)]; exact a2, b1, by rw [b2 14 (by decide) (by decide)]; exact a14, fun k hk => ?_⟩, ?_⟩
  · rw [b2 k (by omega) (by omega), a3 k (by omega) (by omega) (by omega) (by omega) (by omega) (by omega) (by omega)]
    exact z k (by omega)
  · refine cs_en (pc := 0) (lv := [(0, .inr (some (6, 0)))]) (st := []) (cs := 0) (ss := 0) (fun F => rfl) ?_
    rw [Zl_cr, gk_0 (prA 0 0 0) 6 0, cr_z (fun j => iF_z (by decide) (by decide) (by decide) (by decide) 0 0 j)]
    have T : ∀ F f, pC F (d + 2) 70 (f + 14) 0 [(0, .inr (some (6, 0)))] [] (c, iF 0, gk (prA 0 0 0) 6 0 0, Zl) 0 0 = _ := fun F f => c70a F f
    rw [hc 20 (by decide), hc 21 (by decide), hc 2 (by decide), cr_z (k := 20) (fun j => iF_z (by decide) (by decide) (by decide) (by decide) 0 0 j), cr_z (k := 21) (fun j => iF_z (by decide) (by decide) (by decide) (by decide) 0 0 j), Zl_cr 20, Zl_cr 21,
      gk_cr (f := prA 0 0 0) (ka := 20) (ia := 0) (by decide) (fun j => by rw [prA_20, if_neg (by omega)]), gk_up (f := prA 0 0 0) (k := 6) (i := 0) (s := 0) (v := some (20, 0)) rfl,
      gk_cr (f := prA 0 0 0) (ka := 21) (ia := 0) (by decide) (fun j => by rw [prA_21, if_neg (by omega)]), gk_up (f := prA 0 0 0) (k := 6) (i := 0) (s := 0 + 1) (v := some (21, 0)) rfl] at T
    refine cn_call T (ctor11 (d := d + 1) (by rw [cu_ne (by decide), cu_ne (by decide), cu_ne (by decide)]; exact hc 11 (by decide)) (fun j => iF_z (by decide) (by decide) (by decide) (by decide) 0 0 j) (fun i j => iF_z (by decide) (by decide) (by decide) (by decide) 0 i j) (by rw [gk_o (by decide)]; rfl) (by rw [gk_o (by decide)]; rfl) (fun j hj => by rw [gk_o (by decide)]; exact pr_2 0 j hj) (fun i j => by rw [gk_o (by decide)]; exact pr_11 i j)) ?_
    have T2 : ∀ F f, pC F (d + 2) 70 (f + 5) 29 [(0, .inr (some (6, 0)))] [.inr (.inl (some (2, 0))), .inr (.inl (some (6, 0)))] (cu (cu (cu (cu (cu c 20) 21) 2) 11) 11, iF 0, gk (prA 0 0 0) 6 0 (0 + 1 + 1), Zl) 5 33 = _ := fun F f => c70b F f
    rw [show cu (cu (cu (cu (cu c 20) 21) 2) 11) 11 1 = 0 by rw [cu_ne (by decide), cu_ne (by decide), cu_ne (by decide), cu_ne (by decide), cu_ne (by decide)]; exact hc 1 (by decide), gk_up (f := prA 0 0 0) (k := 6) (i := 0) (s := 0 + 1 + 1) (v := some (2, 0)) rfl] at T2
    refine cn_call T2 (ctor8 (d := d + 1) (by rw [cu_ne (by decide), cu_ne (by decide), cu_ne (by decide), cu_ne (by decide), cu_ne (by decide), cu_ne (by decide)]; exact hc 14 (by decide)) (fun j => iF_z (by decide) (by decide) (by decide) (by decide) 0 0 j) (fun i j => iF_z (by decide) (by decide) (by decide) (by decide) 0 i j) (by rw [gk_o (by decide)]; rfl) (by rw [gk_o (by decide)]; rfl) (by rw [gk_o (by decide)]; rfl) (by rw [gk_o (by decide)]; rfl) (fun j hj => by rw [gk_o (by decide)]; exact pr_1 0 j hj) (fun i j => by rw [gk_o (by decide)]; exact pr_14 i j)) ?_
    have T3 : ∀ F f, pC F (d + 2) 70 (f + 3) 40 [(0, .inr (some (6, 0)))] [.inr (.inl (some (1, 0))), .inr (.inl (some (6, 0)))] (cu (cu (cu (cu (cu (cu (cu (cu (cu (cu c 20) 21) 2) 11) 11) 1) 14) 14) 14) 14, iF 0, gk (prA 0 0 0) 6 0 (0 + 1 + 1 + 1), Zl) 10 296 = _ := fun F f => c70c F f
    rw [gk_up (f := prA 0 0 0) (k := 6) (i := 0) (s := 0 + 1 + 1 + 1) (v := some (1, 0)) rfl, gk_end (f := prA 0 0 0) (k := 6) (i := 0) (s := 0 + 1 + 1 + 1 + 1) (fun j h => pr_6 0 j h)] at T3
    refine cn_go T3 (hP _ ?_)
    exact cn_go (N := 2) (fun F f => c70g F f) hC
end CK
