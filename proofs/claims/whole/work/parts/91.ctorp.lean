/-! Partition's constructor. -/
section CP
variable {d p a q cs ss : Nat} {x : Int32} {c : Nat → Nat} {σ : mSg} {g : Nat → Nat → Nat → mRf} {τ : mLg}
theorem c22a (F f : Nat) : pC F d 22 (f + 6) 0 [(0, .inr (some (4, p))), (1, .inl x)] [] (c, σ, g, τ) 0 0 = mq_ks (pX F d 15 [.inr (some (3, c 3))] (cu c 3, mq_cr σ 3 (c 3) 0, mq_cr g 3 (c 3) none, mq_cr τ 3 (c 3) 0)) (fun w M => pC F d 22 f 12 [(0, .inr (some (4, p))), (1, .inl x)] (mq_psh w [.inr (.inl (some (3, c 3))), .inr (.inl (some (4, p)))]) M 2 257) := rfl
theorem c22b {m : Nat} (F f : Nat) : pC F d 22 (f + 18) 12 [(0, .inr (some (4, p))), (1, .inl x)] [.inr (.inl (some (3, m))), .inr (.inl (some (4, p)))] (c, σ, g, τ) 2 257 = pC F d 22 f 45 [(0, .inr (some (4, p))), (1, .inl x), (2, .inl 0)] [] (cu (cu (cu c 22) 10) 10, mq_up (mq_cr (mq_cr (mq_cr σ 22 (c 22) 0) 10 (c 10) 0) 10 (c 10 + 1) 0) 4 p 0 x, mq_up (mq_cr (mq_up (mq_cr (mq_up (mq_cr (mq_up g 4 p 1 (some (3, m))) 22 (c 22) none) 4 p 2 (some (22, c 22))) 10 (c 10) none) 4 p 3 (some (10, c 10))) 10 (c 10 + 1) none) 4 p 4 (some (10, c 10 + 1)), mq_cr (mq_cr (mq_cr τ 22 (c 22) 0) 10 (c 10) 0) 10 (c 10 + 1) 0) 5 273 := rfl
theorem c22c {y : Int32} {M : mMm} (F f : Nat) : pC F d 22 (f + 3) 45 [(0, .inr (some (4, p))), (1, .inl x), (2, .inl y)] [] M cs ss = if y < 8 then pC F d 22 f 51 [(0, .inr (some (4, p))), (1, .inl x), (2, .inl y)] [] M cs ss else pC F d 22 f 71 [(0, .inr (some (4, p))), (1, .inl x), (2, .inl y)] [] M cs ss := rfl
theorem c22d {y : Int32} (F f : Nat) : pC F d 22 (f + 7) 51 [(0, .inr (some (4, p))), (1, .inl x), (2, .inl y)] [] (c, σ, g, τ) cs ss = if cs + 1 ≤ 21 ∧ ss + 14 ≤ 641 then (if cs + 1 + 1 ≤ 21 ∧ ss + 14 + 32 ≤ 641 then mq_ks (pX F d 42 [.inr (some (5, c 5)), .inl y] (cu c 5, mq_cr σ 5 (c 5) 0, mq_cr g 5 (c 5) none, mq_cr τ 5 (c 5) 0)) (fun w M => pC F d 22 f 64 [(0, .inr (some (4, p))), (1, .inl x), (2, .inl y)] (mq_psh w [.inr (.inl (some (5, c 5))), .inl y, .inr (.inl (g 4 p 2))]) M (cs + 1 + 1) (ss + 14 + 32)) else none) else none := rfl
theorem c22e {y : Int32} {K m : Nat} (F f : Nat) : pC F d 22 (f + 3) 64 [(0, .inr (some (4, p))), (1, .inl x), (2, .inl y)] [.inr (.inl (some (5, K))), .inl y, .inr (.inl (some (22, m)))] (c, σ, g, τ) cs ss = if y < 0 ∨ 8 ≤ y.toNatClampNeg then none else pC F d 22 f 45 [(0, .inr (some (4, p))), (1, .inl x), (2, .inl (y + 1))] [] (c, σ, mq_up g 22 m y.toNatClampNeg (some (5, K)), τ) cs ss := rfl
theorem c22f {y : Int32} {M : mMm} (F f : Nat) : pC F d 22 (f + 1) 71 [(0, .inr (some (4, p))), (1, .inl x), (2, .inl y)] [] M cs ss = some (.inl none, M) := rfl
theorem prA_22 {b n i j : Nat} : prA a b n 22 i j = if j < 8 ∧ (4 ≤ i ∨ 8 * i + j < n) then some (5, 8 * i + j) else none := rfl
theorem up_nk' {α : Type} {f : Nat → Nat → Nat → α} {k i j k' i' j' : Nat} {v : α} (h : ¬ k' = k) : mq_up f k i j v k' i' j' = f k' i' j' := if_neg (fun z => h z.1)
theorem pa_22 {b n : Nat} (hp : p < 4) (hq : q < 8) (hn : n = 8 * p + q) : mq_up (prA a b n) 22 p q (some (5, n)) = prA a b (n + 1) := by
  funext k i j
  by_cases e : k = 22
  · subst e
    rw [prA_22]
    show (if 22 = 22 ∧ i = p ∧ j = q then some (5, n) else prA a b n 22 i j) = _
    by_cases e2 : i = p ∧ j = q
    · obtain ⟨rfl, rfl⟩ := e2
      rw [if_pos ⟨rfl, rfl, rfl⟩, if_pos ⟨hq, by omega⟩, hn]
    · rw [if_neg (fun z => e2 z.2), prA_22]
      by_cases e3 : j < 8 ∧ (4 ≤ i ∨ 8 * i + j < n)
      · rw [if_pos e3, if_pos ⟨e3.1, by omega⟩]
      · rw [if_neg e3, if_neg (fun z => e3 ⟨z.1, by omega⟩)]
  · rw [up_nk' e]
    unfold prA
    rw [if_neg e, if_neg e]
theorem i22 : mq_up (mq_cr (iF 0) 4 p 0) 4 p 0 (nI p) = iF 0 := by
  funext k i j
  by_cases e : k = 4 ∧ i = p
  · obtain ⟨rfl, rfl⟩ := e
    have e0 : iF 0 4 i j = if j = 0 then nI i else 0 := by simp [iF]
    rw [e0]
    simp only [mq_up, mq_cr, true_and, and_true, if_true]
  · have e' : ∀ v, ¬ (k = 4 ∧ i = p ∧ j = v) := fun v z => e ⟨z.1, z.2.1⟩
    unfold mq_up mq_cr
    rw [if_neg (e' _), if_neg e]
theorem loop22 (hp : p < 4) : ∀ (m q : Nat) (c : Nat → Nat), q + m = 8 → c 5 = 8 * p + q → c 13 = 8 * p + q → ∃ c', (c' 5 = 8 * p + 8 ∧ c' 13 = 8 * p + 8 ∧ ∀ k, k ≠ 5 → k ≠ 13 → c' k = c k) ∧ Cn (d + 1) 22 45 [(0, .inr (some (4, p))), (1, .inl x), (2, .inl (nI q))] [] (c, iF 0, prA a 0 (8 * p + q), Zl) (5 + 2 * q) (273 + 46 * q) (.inl none, (c', iF 0, prA a 0 (8 * p + 8), Zl))
  | 0, q, c, hq, h5, h13 => by
    have ee : q = 8 := by omega
    subst ee
    refine ⟨c, ⟨h5, h13, fun _ _ _ => rfl⟩, cn_go (N := 3) (pc1 := 71) (fun F f => (c22c F f).trans (if_neg (by decide))) (cn_ret (N := 1) (fun F f => c22f F f))⟩
  | m + 1, q, c, hq, h5, h13 => by
    have e13 : cu c 5 13 = 8 * p + q := (cu_ne (by decide)).trans h13
    obtain ⟨c', ⟨k1, k2, k3⟩, h⟩ := loop22 hp m (q + 1) (cu (cu c 5) 13) (by omega) (by rw [cu_ne (by decide), cu_eq, h5]; omega) (by rw [cu_eq, e13]; omega)
    refine ⟨c', ⟨k1, k2, fun k n5 n13 => by rw [k3 k n5 n13, cu_ne n13, cu_ne n5]⟩, ?_⟩
    have hq8 : q < 8 := by omega
    refine cn_go (N := 3) (fun F f => (c22c F f).trans (if_pos ((nI_ltI (b := 8) (by omega) (by decide)).mpr hq8))) ?_
    have T : ∀ F f, pC F (d + 1) 22 (f + 7) 51 [(0, .inr (some (4, p))), (1, .inl x), (2, .inl (nI q))] [] (c, iF 0, prA a 0 (8 * p + q), Zl) (5 + 2 * q) (273 + 46 * q) = _ := fun F f => (c22d F f).trans ((if_pos (by omega)).trans (if_pos (by omega)))
    rw [h5] at T
    have s42 := ctor42 (d := d) (a := a) (b := 0) (n := 8 * p + q) e13
    rw [show (8 * p + q) % 8 = q by omega] at s42
    refine cn_call T s42 ?_
    have T2 : ∀ F f, pC F (d + 1) 22 (f + 3) 64 [(0, .inr (some (4, p))), (1, .inl x), (2, .inl (nI q))] [.inr (.inl (some (5, 8 * p + q))), .inl (nI q), .inr (.inl (some (22, p)))] (cu (cu c 5) 13, iF 0, prA a 0 (8 * p + q), Zl) (5 + 2 * q + 1 + 1) (273 + 46 * q + 14 + 32) = _ := fun F f => (c22e F f).trans (if_neg (nI_in hq8 (by decide)))
    rw [nI_clamp (by omega), pa_22 hp hq8 rfl, nI_1] at T2
    refine cn_go T2 ?_
    rw [show 5 + 2 * q + 1 + 1 = 5 + 2 * (q + 1) by omega, show 273 + 46 * q + 14 + 32 = 273 + 46 * (q + 1) by omega]
    exact h
theorem ctor22 (hp : p < 4) (h3 : c 3 = p) (h15 : c 15 = p) (h22 : c 22 = p) (h10 : c 10 = 2 * p) (h5 : c 5 = 8 * p) (h13 : c 13 = 8 * p) : ∃ c', (c' 3 = p + 1 ∧ c' 15 = p + 1 ∧ c' 22 = p + 1 ∧ c' 10 = 2 * p + 2 ∧ c' 5 = 8 * p + 8 ∧ c' 13 = 8 * p + 8 ∧ ∀ k, k ≠ 3 → k ≠ 15 → k ≠ 22 → k ≠ 10 → k ≠ 5 → k ≠ 13 → c' k = c k) ∧ Cs (d + 2) 22 [.inr (some (4, p)), .inl (nI p)] (c, mq_cr (iF 0) 4 p 0, mq_cr (prA a 0 (8 * p)) 4 p none, mq_cr Zl 4 p 0) (.inl none, (c', iF 0, prA a 0 (8 * p + 8), Zl)) := by
  have e15 : cu c 3 15 = p := (cu_ne (by decide)).trans h15
  obtain ⟨c', ⟨k1, k2, k3⟩, h⟩ := loop22 (d := d) (a := a) (x := nI p) hp 8 0 (cu (cu (cu (cu (cu c 3) 15) 22) 10) 10) rfl (by rw [cu_ne (by decide), cu_ne (by decide), cu_ne (by decide), cu_ne (by decide), cu_ne (by decide)]; exact h5) (by rw [cu_ne (by decide), cu_ne (by decide), cu_ne (by decide), cu_ne (by decide), cu_ne (by decide)]; exact h13)
  refine ⟨c', ⟨?_, ?_, ?_, ?_, k1, k2, fun k n3 n15 n22 n10 n5 n13 => ?_⟩, ?_⟩
  · rw [k3 3 (by decide) (by decide), cu_ne (by decide), cu_ne (by decide), cu_ne (by decide), cu_ne (by decide), cu_eq, h3]
  · rw [k3 15 (by decide) (by decide), cu_ne (by decide), cu_ne (by decide), cu_ne (by decide), cu_eq, e15]
  · rw [k3 22 (by decide) (by decide), cu_ne (by decide), cu_ne (by decide), cu_eq, cu_ne (by decide), cu_ne (by decide), h22]
  · rw [k3 10 (by decide) (by decide), cu_eq, cu_eq, cu_ne (by decide), cu_ne (by decide), cu_ne (by decide), h10]
  · rw [k3 k n5 n13, cu_ne n10, cu_ne n10, cu_ne n22, cu_ne n15, cu_ne n3]
  · refine cs_en (pc := 0) (lv := [(0, .inr (some (4, p))), (1, .inl (nI p))]) (st := []) (cs := 0) (ss := 0) (fun F => rfl) ?_
    rw [Zl_cr, gk_0 (prA a 0 (8 * p)) 4 p]
    have T : ∀ F f, pC F (d + 1) 22 (f + 6) 0 [(0, .inr (some (4, p))), (1, .inl (nI p))] [] (c, mq_cr (iF 0) 4 p 0, gk (prA a 0 (8 * p)) 4 p 0, Zl) 0 0 = _ := fun F f => c22a F f
    rw [h3] at T
    refine cn_call T (ctor15 (d := d) e15 (fun j => by simp [mq_cr, iF]) (fun j => by simp [mq_cr, iF]) (by rw [gk_o (by decide)]; rfl) (fun j hj => by rw [gk_o (by decide)]; exact pr_3 p j hj) (fun j => by rw [gk_o (by decide)]; exact pr_15 p j)) ?_
    have T2 : ∀ F f, pC F (d + 1) 22 (f + 18) 12 [(0, .inr (some (4, p))), (1, .inl (nI p))] [.inr (.inl (some (3, p))), .inr (.inl (some (4, p)))] (cu (cu c 3) 15, mq_cr (iF 0) 4 p 0, gk (prA a 0 (8 * p)) 4 p 0, Zl) 2 257 = _ := fun F f => c22b F f
    have e22 : cu (cu c 3) 15 22 = p := by rw [cu_ne (by decide), cu_ne (by decide)]; exact h22
    have e10 : cu (cu c 3) 15 10 = 2 * p := by rw [cu_ne (by decide), cu_ne (by decide)]; exact h10
    have hz : ∀ k i, k ≠ 0 → k ≠ 4 → k ≠ 5 → k ≠ 13 → ∀ j, mq_cr (iF 0) 4 p 0 k i j = 0 := fun k i n0 n4 n5 n13 j => by simp [mq_cr, iF, n0, n4, n5, n13]
    rw [e22, e10, cr_z (hz 22 p (by decide) (by decide) (by decide) (by decide)), cr_z (hz 10 _ (by decide) (by decide) (by decide) (by decide)), cr_z (hz 10 _ (by decide) (by decide) (by decide) (by decide)), i22, Zl_cr, Zl_cr, Zl_cr,
      gk_sk (f := prA a 0 (8 * p)) (k := 4) (i := p) (s := 0) rfl, gk_up (f := prA a 0 (8 * p)) (k := 4) (i := p) (s := 0 + 1) (v := some (3, p)) rfl,
      gk_cr (f := prA a 0 (8 * p)) (ka := 22) (ia := p) (by decide) (fun j => by unfold prA; rw [if_neg (by decide), if_neg (by decide), if_pos rfl, if_neg (by omega)]), gk_up (f := prA a 0 (8 * p)) (k := 4) (i := p) (s := 0 + 1 + 1) (v := some (22, p)) rfl,
      gk_cr (f := prA a 0 (8 * p)) (ka := 10) (ia := 2 * p) (by decide) (fun j => pr_10 (2 * p) j), gk_up (f := prA a 0 (8 * p)) (k := 4) (i := p) (s := 0 + 1 + 1 + 1) (v := some (10, 2 * p)) rfl,
      gk_cr (f := prA a 0 (8 * p)) (ka := 10) (ia := 2 * p + 1) (by decide) (fun j => pr_10 (2 * p + 1) j), gk_up (f := prA a 0 (8 * p)) (k := 4) (i := p) (s := 0 + 1 + 1 + 1 + 1) (v := some (10, 2 * p + 1)) rfl,
      gk_end (f := prA a 0 (8 * p)) (k := 4) (i := p) (s := 0 + 1 + 1 + 1 + 1 + 1) (fun j h => pr_4 p j h)] at T2
    rw [gk_sk (f := prA a 0 (8 * p)) (k := 4) (i := p) (s := 0) rfl]
    exact cn_go T2 h
end CP
