/-! What each constructor leaves. -/
theorem pr_0 (i j : Nat) (h : 1 ≤ j) : pr 0 i j = none := by unfold pr; split <;> simp_all
theorem pr_1 (i j : Nat) (h : 4 ≤ j) : pr 1 i j = none := by unfold pr; split <;> simp_all
theorem pr_2 (i j : Nat) (h : 2 ≤ j) : pr 2 i j = none := by unfold pr; split <;> simp_all
theorem pr_3 (i j : Nat) (h : 1 ≤ j) : pr 3 i j = none := by unfold pr; split <;> simp_all
theorem pr_4 (i j : Nat) (h : 5 ≤ j) : pr 4 i j = none := by unfold pr; split <;> simp_all
theorem pr_5 (i j : Nat) (h : 2 ≤ j) : pr 5 i j = none := by unfold pr; split <;> simp_all
theorem pr_6 (i j : Nat) (h : 4 ≤ j) : pr 6 i j = none := by unfold pr; split <;> simp_all
theorem pr_7 (i j : Nat) (h : 41 ≤ j) : pr 7 i j = none := by unfold pr; split <;> simp_all
theorem pr_10 (i j : Nat) : pr 10 i j = none := by unfold pr; split <;> simp_all
theorem pr_11 (i j : Nat) : pr 11 i j = none := by unfold pr; split <;> simp_all
theorem pr_12 (i j : Nat) : pr 12 i j = none := by unfold pr; split <;> simp_all
theorem pr_13 (i j : Nat) : pr 13 i j = none := by unfold pr; split <;> simp_all
theorem pr_14 (i j : Nat) : pr 14 i j = none := by unfold pr; split <;> simp_all
theorem pr_15 (i j : Nat) : pr 15 i j = none := by unfold pr; split <;> simp_all
theorem pr_16 (i j : Nat) : pr 16 i j = none := by unfold pr; split <;> simp_all
theorem pr_30 (i j : Nat) : pr 30 i j = none := by unfold pr; split <;> simp_all
theorem pr_31 (i j : Nat) : pr 31 i j = none := by unfold pr; split <;> simp_all
theorem pr_32 (i j : Nat) : pr 32 i j = none := by unfold pr; split <;> simp_all
theorem pr_40 (i j : Nat) : pr 40 i j = none := by unfold pr; split <;> simp_all
theorem gk_o {f : Nat → Nat → Nat → mRf} {k0 i0 s k : Nat} (h : k ≠ k0) (i j : Nat) : gk f k0 i0 s k i j = f k i j := if_neg (fun z => h z.1)
section CT
variable {d K i p a b n : Nat} {c : Nat → Nat} {σ : mSg} {f : Nat → Nat → Nat → mRf}
theorem fuel {F n : Nat} (h : n ≤ F) : ∃ f, F = f + n := ⟨F - n, by omega⟩
theorem iF_5 {n i j : Nat} : iF n 5 i j = if j = 8 ∨ j = 10 ∨ j = 11 then -1 else if j = 0 then nI (i % 8) else 0 := by simp [iF]
theorem i42 : mq_up (mq_up (mq_up (mq_up (mq_up (mq_cr (mq_cr (iF 0) 5 K 0) 13 K 0) 5 K 7 0) 5 K 8 (-1)) 5 K 10 (-1)) 5 K 11 (-1)) 5 K 0 (nI (K % 8)) = iF 0 := by
  have h13 : ∀ j, mq_cr (iF 0) 5 K 0 13 K j = 0 := fun j => by simp [mq_cr, iF]
  rw [cr_z h13]
  funext k i j
  by_cases e : k = 5 ∧ i = K
  · obtain ⟨rfl, rfl⟩ := e
    rw [iF_5]
    simp only [mq_up, mq_cr, true_and, and_true, if_true]
    by_cases h0 : j = 0
    · subst h0; rw [if_pos rfl, if_neg (by omega), if_pos rfl]
    · rw [if_neg h0]
      by_cases h11 : j = 11
      · rw [if_pos h11, if_pos (by omega)]
      · rw [if_neg h11]
        by_cases h10 : j = 10
        · rw [if_pos h10, if_pos (by omega)]
        · rw [if_neg h10]
          by_cases h8 : j = 8
          · rw [if_pos h8, if_pos (by omega)]
          · rw [if_neg h8, if_neg (show ¬ (j = 8 ∨ j = 10 ∨ j = 11) by omega), if_neg h0]
            split <;> rfl
  · have e' : ∀ v, ¬ (k = 5 ∧ i = K ∧ j = v) := fun v z => e ⟨z.1, z.2.1⟩
    unfold mq_up mq_cr
    rw [if_neg (e' _), if_neg (e' _), if_neg (e' _), if_neg (e' _), if_neg (e' _), if_neg e]
theorem ctor42 (h13 : c 13 = K) : Cs (d + 1) 42 [.inr (some (5, K)), .inl (nI (K % 8))] (c, mq_cr (iF 0) 5 K 0, mq_cr (prA a b n) 5 K none, mq_cr Zl 5 K 0) (.inl none, (cu c 13, iF 0, prA a b n, Zl)) := by
  refine ⟨22, fun F hF => ?_⟩
  obtain ⟨f, rfl⟩ := fuel hF
  rw [c42T, h13, i42, Zl_cr, Zl_cr, gk_0 (prA a b n) 5 K, gk_cr (f := prA a b n) (ka := 13) (ia := K) (by decide) (fun j => pr_13 K j), gk_sk (f := prA a b n) (k := 5) (i := K) (s := 0) rfl, gk_up (f := prA a b n) (k := 5) (i := K) (s := 0 + 1) (v := some (13, K)) rfl, gk_end (f := prA a b n) (k := 5) (i := K) (s := 0 + 1 + 1) (fun j h => pr_5 K j h)]
theorem ctor15 (h15 : c 15 = i) (hz3 : ∀ j, σ 3 i j = 0) (hz : ∀ j, σ 15 i j = 0) (h0 : f 3 i 0 = some (15, i)) (h1 : ∀ j, 1 ≤ j → f 3 i j = none) (h2 : ∀ j, f 15 i j = none) : Cs (d + 1) 15 [.inr (some (3, i))] (c, mq_cr σ 3 i 0, mq_cr f 3 i none, mq_cr Zl 3 i 0) (.inl none, (cu c 15, σ, f, Zl)) := by
  refine ⟨7, fun F hF => ?_⟩
  obtain ⟨k, rfl⟩ := fuel hF
  rw [c15T, h15, cr_z hz3, cr_z hz, Zl_cr, Zl_cr, gk_0 f 3 i, gk_cr (by decide) h2, gk_up (s := 0) h0, gk_end h1]
theorem i1 : mq_up (mq_cr (mq_cr (iF 0) 0 i 0) 11 K 0) 0 i 7 (-1) = iF 0 := by
  have h : ∀ j, mq_cr (iF 0) 0 i 0 11 K j = 0 := fun j => by simp [mq_cr, iF]
  rw [cr_z h]
  funext k i' j
  by_cases e : k = 0 ∧ i' = i
  · obtain ⟨rfl, rfl⟩ := e
    have e0 : iF 0 0 i' j = if j = 7 then -1 else 0 := by simp [iF]
    rw [e0]
    simp only [mq_up, mq_cr, true_and, and_true, if_true]
  · have e' : ∀ v, ¬ (k = 0 ∧ i' = i ∧ j = v) := fun v z => e ⟨z.1, z.2.1⟩
    unfold mq_up mq_cr
    rw [if_neg (e' _), if_neg e]
theorem ctor1 (h11 : c 11 = 2 + i) : Cs (d + 1) 1 [.inr (some (0, i))] (c, mq_cr (iF 0) 0 i 0, mq_cr (prA a b n) 0 i none, mq_cr Zl 0 i 0) (.inl none, (cu c 11, iF 0, prA a b n, Zl)) := by
  refine ⟨10, fun F hF => ?_⟩
  obtain ⟨k, rfl⟩ := fuel hF
  rw [c1T, h11, i1, Zl_cr, Zl_cr, gk_0 (prA a b n) 0 i, gk_cr (f := prA a b n) (ka := 11) (ia := 2 + i) (by decide) (fun j => pr_11 (2 + i) j), gk_up (f := prA a b n) (k := 0) (i := i) (s := 0) (v := some (11, 2 + i)) rfl, gk_end (f := prA a b n) (k := 0) (i := i) (s := 0 + 1) (fun j h => pr_0 i j h)]
theorem ctor11 (h11 : c 11 = 0) (hz2 : ∀ j, σ 2 0 j = 0) (hz : ∀ i j, σ 11 i j = 0) (h0 : f 2 0 0 = some (11, 0)) (h1 : f 2 0 1 = some (11, 1)) (h2 : ∀ j, 2 ≤ j → f 2 0 j = none) (h3 : ∀ i j, f 11 i j = none) : Cs (d + 1) 11 [.inr (some (2, 0))] (c, mq_cr σ 2 0 0, mq_cr f 2 0 none, mq_cr Zl 2 0 0) (.inl none, (cu (cu c 11) 11, σ, f, Zl)) := by
  refine ⟨11, fun F hF => ?_⟩
  obtain ⟨k, rfl⟩ := fuel hF
  rw [c11T, h11, cr_z hz2, cr_z (hz 0), cr_z (hz (0 + 1)), Zl_cr, Zl_cr, Zl_cr, gk_0 f 2 0, gk_cr (by decide) (h3 0), gk_up (s := 0) h0, gk_cr (by decide) (h3 (0 + 1)), gk_up (s := 1) h1, gk_end h2]
theorem ctor8 (h14 : c 14 = 0) (hz1 : ∀ j, σ 1 0 j = 0) (hz : ∀ i j, σ 14 i j = 0) (h0 : f 1 0 0 = some (14, 0)) (h1 : f 1 0 1 = some (14, 1)) (h2 : f 1 0 2 = some (14, 2)) (h3 : f 1 0 3 = some (14, 3)) (h4 : ∀ j, 4 ≤ j → f 1 0 j = none) (h5 : ∀ i j, f 14 i j = none) : Cs (d + 1) 8 [.inr (some (1, 0))] (c, mq_cr σ 1 0 0, mq_cr f 1 0 none, mq_cr Zl 1 0 0) (.inl none, (cu (cu (cu (cu c 14) 14) 14) 14, σ, f, Zl)) := by
  refine ⟨19, fun F hF => ?_⟩
  obtain ⟨k, rfl⟩ := fuel hF
  rw [c8T, h14, cr_z hz1, cr_z (hz _), cr_z (hz _), cr_z (hz _), cr_z (hz _), Zl_cr, Zl_cr, Zl_cr, Zl_cr, Zl_cr, gk_0 f 1 0, gk_cr (by decide) (h5 _), gk_up (s := 0) h0, gk_cr (by decide) (h5 _), gk_up (s := 1) h1, gk_cr (by decide) (h5 _), gk_up (s := 2) h2, gk_cr (by decide) (h5 _), gk_up (s := 3) h3, gk_end h4]
end CT
