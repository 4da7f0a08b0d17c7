/-! The law's loop. -/
theorem swt_cases (x : Int32) : mq_swt x 884 (pl_sw 16) = 116 ∨ mq_swt x 884 (pl_sw 16) = 164 ∨ mq_swt x 884 (pl_sw 16) = 268 ∨ mq_swt x 884 (pl_sw 16) = 376 ∨ mq_swt x 884 (pl_sw 16) = 436 ∨ mq_swt x 884 (pl_sw 16) = 496 ∨ mq_swt x 884 (pl_sw 16) = 520 ∨ mq_swt x 884 (pl_sw 16) = 576 ∨ mq_swt x 884 (pl_sw 16) = 613 ∨ mq_swt x 884 (pl_sw 16) = 662 ∨ mq_swt x 884 (pl_sw 16) = 711 ∨ mq_swt x 884 (pl_sw 16) = 748 ∨ mq_swt x 884 (pl_sw 16) = 785 ∨ mq_swt x 884 (pl_sw 16) = 822 ∨ mq_swt x 884 (pl_sw 16) = 859 ∨ mq_swt x 884 (pl_sw 16) = 884 := by
  by_cases h0 : x = 0
  · subst h0
    exact Or.inl rfl
  · skip
    by_cases h1 : x = 1
    · subst h1
      exact Or.inr (Or.inl rfl)
    · skip
      by_cases h2 : x = 2
      · subst h2
        exact Or.inr (Or.inr (Or.inl rfl))
      · skip
        by_cases h3 : x = 3
        · subst h3
          exact Or.inr (Or.inr (Or.inr (Or.inl rfl)))
        · skip
          by_cases h4 : x = 4
          · subst h4
            exact Or.inr (Or.inr (Or.inr (Or.inr (Or.inl rfl))))
          · skip
            by_cases h5 : x = 5
            · subst h5
              exact Or.inr (Or.inr (Or.inr (Or.inr (Or.inr (Or.inl rfl)))))
            · skip
              by_cases h6 : x = 6
              · subst h6
                exact Or.inr (Or.inr (Or.inr (Or.inr (Or.inr (Or.inr (Or.inl rfl))))))
              · skip
                by_cases h7 : x = 7
                · subst h7
                  exact Or.inr (Or.inr (Or.inr (Or.inr (Or.inr (Or.inr (Or.inr (Or.inl rfl)))))))
                · skip
                  by_cases h8 : x = 8
                  · subst h8
                    exact Or.inr (Or.inr (Or.inr (Or.inr (Or.inr (Or.inr (Or.inr (Or.inr (Or.inl rfl))))))))
                  · skip
                    by_cases h9 : x = 9
                    · subst h9
                      exact Or.inr (Or.inr (Or.inr (Or.inr (Or.inr (Or.inr (Or.inr (Or.inr (Or.inr (Or.inl rfl)))))))))
                    · skip
                      by_cases h10 : x = 10
                      · subst h10
                        exact Or.inr (Or.inr (Or.inr (Or.inr (Or.inr (Or.inr (Or.inr (Or.inr (Or.inr (Or.inr (Or.inl rfl))))))))))
                      · skip
                        by_cases h11 : x = 11
                        · subst h11
                          exact Or.inr (Or.inr (Or.inr (Or.inr (Or.inr (Or.inr (Or.inr (Or.inr (Or.inr (Or.inr (Or.inr (Or.inl rfl)))))))))))
                        · skip
                          by_cases h12 : x = 12
                          · subst h12
                            exact Or.inr (Or.inr (Or.inr (Or.inr (Or.inr (Or.inr (Or.inr (Or.inr (Or.inr (Or.inr (Or.inr (Or.inr (Or.inl rfl))))))))))))
                          · skip
                            by_cases h13 : x = 13
                            · subst h13
                              exact Or.inr (Or.inr (Or.inr (Or.inr (Or.inr (Or.inr (Or.inr (Or.inr (Or.inr (Or.inr (Or.inr (Or.inr (Or.inr (Or.inl rfl)))))))))))))
                            · skip
                              by_cases h14 : x = 14
                              · subst h14
                                exact Or.inr (Or.inr (Or.inr (Or.inr (Or.inr (Or.inr (Or.inr (Or.inr (Or.inr (Or.inr (Or.inr (Or.inr (Or.inr (Or.inr (Or.inl rfl))))))))))))))
                              · skip
                                refine Or.inr (Or.inr (Or.inr (Or.inr (Or.inr (Or.inr (Or.inr (Or.inr (Or.inr (Or.inr (Or.inr (Or.inr (Or.inr (Or.inr (Or.inr (?_)))))))))))))))
                                show (if x = 0 then 116 else if x = 1 then 164 else if x = 2 then 268 else if x = 3 then 376 else if x = 4 then 436 else if x = 5 then 496 else if x = 6 then 520 else if x = 7 then 576 else if x = 8 then 613 else if x = 9 then 662 else if x = 10 then 711 else if x = 11 then 748 else if x = 12 then 785 else if x = 13 then 822 else if x = 14 then 859 else 884) = 884
                                rw [if_neg h0, if_neg h1, if_neg h2, if_neg h3, if_neg h4, if_neg h5, if_neg h6, if_neg h7, if_neg h8, if_neg h9, if_neg h10, if_neg h11, if_neg h12, if_neg h13, if_neg h14]
theorem lt6 {L I : Nat} (hL : L ≤ 3072) (hI : I ≤ 4000) : nI L - 6 < nI I ↔ L < I + 6 := by
  by_cases h : 6 ≤ L
  · rw [show nI L - 6 = nI (L - 6) from nI_sub (a := L) (b := 6) h, nI_ltI (by omega) (by omega)]
    omega
  · have h0 : ∀ L, L < 6 → nI L - 6 < 0 := by decide +kernel
    exact ⟨fun _ => by omega, fun _ => Int32.lt_of_lt_of_le (h0 L (by omega)) (Int32.not_lt.mp (nI_pos (by omega)))⟩
section LOOP
variable {L : Nat} {xs : Nat → Int32} {c : Nat → Nat}
theorem ln_end {lv : List (Nat × mLV)} {ρ : mSg} {τ : mLg} {cs ss : Nat} : LN L xs c 890 lv [] ρ τ cs ss := by
  refine ln_1 (pc1 := 891) (lv1 := lv) (st1 := [.inl 1]) k_890 (fun _ _ => rfl) ?_
  exact ⟨0, 1, fun F f _ => ⟨_, (pl_step k_891 F f _).trans rfl⟩⟩
theorem law_loop (hL : L ≤ 3072) : ∀ (m I b cs ss : Nat) (E : List (Nat × mLV)) (ρ : mSg) (τ : mLg), L ≤ I + 6 * m + 5 → I ≤ 3072 → JI b ρ → b + 50500 * m < 2 ^ 26 → cs + m ≤ 601024 → ss + 6 * m ≤ 7293034 → LN L xs c 23 (lb (nI I) E) [] ρ τ cs ss := by
  intro m
  induction m with
  | zero =>
    intro I b cs ss E ρ τ h hI hJ hb hc hs
    refine ln_1 (pc1 := 25) (lv1 := lb (nI I) E) (st1 := [.inl (nI I)]) k_23 (fun _ _ => rfl) ?_
    refine ln_1 (pc1 := 26) (lv1 := lb (nI I) E) (st1 := [.inr (.inl (some (999, 0))), .inl (nI I)]) k_25 (fun _ _ => rfl) ?_
    refine ln_1 (pc1 := 27) (lv1 := lb (nI I) E) (st1 := [.inl (nI L), .inl (nI I)]) k_26 (fun _ _ => rfl) ?_
    refine ln_1 (pc1 := 29) (lv1 := lb (nI I) E) (st1 := [.inl 6, .inl (nI L), .inl (nI I)]) k_27 (fun _ _ => rfl) ?_
    refine ln_1 (pc1 := 30) (lv1 := lb (nI I) E) (st1 := [.inl (nI L - 6), .inl (nI I)]) k_29 (fun _ _ => rfl) ?_
    refine ln_if (P := nI L - 6 < nI I) (pc1 := 890) (pc2 := 33) (r := []) k_30 (fun _ _ => rfl) (fun _ => ln_end) (fun z => absurd ((lt6 hL (by omega)).mpr (by omega)) z)
  | succ m ih =>
    intro I b cs ss E ρ τ h hI hJ hb hc hs
    have hbb : b + 50500 < 2 ^ 26 := Nat.lt_of_le_of_lt (Nat.add_le_add_left (Nat.le_mul_of_pos_right _ (Nat.succ_pos m)) b) hb
    refine ln_1 (pc1 := 25) (lv1 := lb (nI I) E) (st1 := [.inl (nI I)]) k_23 (fun _ _ => rfl) ?_
    refine ln_1 (pc1 := 26) (lv1 := lb (nI I) E) (st1 := [.inr (.inl (some (999, 0))), .inl (nI I)]) k_25 (fun _ _ => rfl) ?_
    refine ln_1 (pc1 := 27) (lv1 := lb (nI I) E) (st1 := [.inl (nI L), .inl (nI I)]) k_26 (fun _ _ => rfl) ?_
    refine ln_1 (pc1 := 29) (lv1 := lb (nI I) E) (st1 := [.inl 6, .inl (nI L), .inl (nI I)]) k_27 (fun _ _ => rfl) ?_
    refine ln_1 (pc1 := 30) (lv1 := lb (nI I) E) (st1 := [.inl (nI L - 6), .inl (nI I)]) k_29 (fun _ _ => rfl) ?_
    refine ln_if (P := nI L - 6 < nI I) (pc1 := 890) (pc2 := 33) (r := []) k_30 (fun _ _ => rfl) (fun _ => ln_end) (fun z => ?_)
    have hI6 : I + 6 ≤ L := Nat.le_of_not_lt fun y => z ((lt6 hL (by omega)).mpr y)
    refine ln_1 (pc1 := 34) (lv1 := lb (nI I) E) (st1 := [.inr (.inl (some (999, 0)))]) k_33 (fun _ _ => rfl) ?_
    refine ln_1 (pc1 := 36) (lv1 := lb (nI I) E) (st1 := [.inl (nI I), .inr (.inl (some (999, 0)))]) k_34 (fun _ _ => rfl) ?_
    refine ln_ia (n := I) (pc1 := 37) (st1 := []) k_36 (fun _ _ => rfl) rfl (by omega) hL ?_
    refine ln_1 (pc1 := 39) (lv1 := lb (nI I) E) (st1 := [.inl 15, .inl (xs I)]) k_37 (fun _ _ => rfl) ?_
    refine ln_1 (pc1 := 40) (lv1 := lb (nI I) E) (st1 := [.inl (xs I &&& 15)]) k_39 (fun _ _ => rfl) ?_
    refine ln_1 (pc1 := mq_swt (xs I &&& 15) 884 (pl_sw 16)) (lv1 := lb (nI I) E) (st1 := []) k_40 (fun _ _ => rfl) ?_
    have hk : ∀ E' ρ' τ' cs' ss', JI (b + 50500) ρ' → cs' ≤ cs + 1 → ss' ≤ ss + 6 → LN L xs c 884 (lb (nI I) E') [] ρ' τ' cs' ss' := fun E' ρ' τ' cs' ss' j1 j2 j3 => by
      refine ln_1 (pc1 := 887) (lv1 := lb (nI I + 6) (E'.filter (fun q => !(q.1 == 4)))) (st1 := []) k_884 (fun _ _ => rfl) ?_
      refine ln_1 (pc1 := 23) (lv1 := lb (nI I + 6) (E'.filter (fun q => !(q.1 == 4)))) (st1 := []) k_887 (fun _ _ => rfl) ?_
      rw [show nI I + 6 = nI (I + 6) from nI_add I 6]
      exact ih (I + 6) (b + 50500) cs' ss' _ ρ' τ' (by omega) (by omega) j1 (by omega) (by omega) (by omega)
    have hcc : cs + 1 ≤ 601024 ∧ ss + 6 ≤ 7293034 := ⟨by omega, by omega⟩
    rcases swt_cases (xs I &&& 15) with e | e | e | e | e | e | e | e | e | e | e | e | e | e | e | e
    · rw [e]; exact lc_0 hI6 hL hJ hbb hcc hk
    · rw [e]; exact lc_1 hI6 hL hJ hbb hcc hk
    · rw [e]; exact lc_2 hI6 hL hJ hbb hcc hk
    · rw [e]; exact lc_3 hI6 hL hJ hbb hcc hk
    · rw [e]; exact lc_4 hI6 hL hJ hbb hcc hk
    · rw [e]; exact lc_5 hI6 hL hJ hbb hcc hk
    · rw [e]; exact lc_6 hI6 hL hJ hbb hcc hk
    · rw [e]; exact lc_7 hI6 hL hJ hbb hcc hk
    · rw [e]; exact lc_8 hI6 hL hJ hbb hcc hk
    · rw [e]; exact lc_9 hI6 hL hJ hbb hcc hk
    · rw [e]; exact lc_10 hI6 hL hJ hbb hcc hk
    · rw [e]; exact lc_11 hI6 hL hJ hbb hcc hk
    · rw [e]; exact lc_12 hI6 hL hJ hbb hcc hk
    · rw [e]; exact lc_13 hI6 hL hJ hbb hcc hk
    · rw [e]; exact lc_14 hI6 hL hJ hbb hcc hk
    · rw [e]; exact hk E ρ τ cs ss (hJ.mono (by omega)) (by omega) (by omega)
end LOOP
