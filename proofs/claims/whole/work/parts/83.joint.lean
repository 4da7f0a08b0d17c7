/-! One memory for both: the class's cells and the reference's. -/
theorem sp_det {d mi : Nat} {as : List mLV} {σ ω ω' : mSg} {r r' : mRz} (h : Sp d mi as σ r ω) (h' : Sp d mi as σ r' ω') : r = r' ∧ ω = ω' := by
  obtain ⟨F, h⟩ := h
  obtain ⟨F', h'⟩ := h'
  have e := (h (F + F') (by omega) (fun _ => 0) (fun _ _ _ => 0)).symm.trans (h' (F + F') (by omega) (fun _ => 0) (fun _ _ _ => 0))
  injection e with e
  injection e with e1 e2
  injection e2 with e2 e3
  injection e3 with e3 e4
  exact ⟨e1, e3⟩
section JOINT
variable {b b' : Nat} {σ μ σ0 μ0 σ' μ' ρ : mSg}
/-- the class's side reads the class's cells, the reference's side the reference's -/
theorem KI.move (h : KI b σ0 μ0 σ μ) (hc : ∀ k i j, isM k i = false → σ' k i j = σ k i j) (hm : ∀ k i j, isM k i = true → μ' k i j = μ k i j) : KI b σ' μ' σ' μ' := by
  obtain ⟨⟨h1, hPI, h3⟩, ⟨c1, c2, c3, c4, c5⟩, h5⟩ := h
  have i10 : ∀ i, i < 8 → isM 10 i = false := fun i hi => by show decide (8 ≤ i) = false; exact decide_eq_false (by omega)
  have i11 : ∀ i, i < 10 → isM 11 i = false := fun i hi => by show decide (10 ≤ i) = false; exact decide_eq_false (by omega)
  refine ⟨⟨⟨fun k i j k' i' j' e => ?_, fun _ _ _ _ => rfl, fun _ _ _ _ => rfl, rfl⟩, fun K hK => ?_, og_eq h3 (fun k => hc 5 k 7 rfl) (fun k => hc 5 k 12 rfl) (fun k => hc 4 k 6 rfl) (fun k => hm 13 41 k rfl) (hm 7 0 27 rfl)⟩, ⟨?_, ⟨fun p s hp hs => ?_, fun h7 p s hp hs => ?_⟩, fun p j i hp hj hi => ?_, fun ch hch => ?_, ?_⟩, h5.frame (fun j => hc 1 0 j rfl) (Nat.le_refl _)⟩
  · obtain ⟨-, e1, e2⟩ := lk_spec e
    rw [hc k i j e1, hm k' i' j' e2]
    exact h1.1 _ _ _ _ _ _ e
  · unfold PI
    rw [hc 5 K 7 rfl, hc 5 K 8 rfl, hc 5 K 5 rfl, hc 5 K 11 rfl, hc 5 K 10 rfl]
    exact hPI K hK
  · obtain ⟨g1, g2, g3, n, g4, g5⟩ := c1
    refine ⟨fun p hp => ?_, fun p q hp hq => ?_, fun p e hp he => ?_, n, g4, ?_⟩
    · rw [hc 4 p 0 rfl, hc 4 p 5 rfl]; exact g1 p hp
    · rw [hc 5 _ 0 rfl]; exact g2 p q hp hq
    · rw [hc 10 _ e (i10 _ (by omega))]; exact g3 p e hp he
    · rw [hc 6 0 4 rfl]; exact g5
  · rw [hc 10 _ s (i10 _ (by omega))]; exact c2.1 p s hp hs
  · rw [hc 6 0 7 rfl] at h7
    rw [hc 10 _ s (i10 _ (by omega))]; exact c2.2 h7 p s hp hs
  · rw [hm 30 0 _ rfl, hc 15 p j rfl]; exact c3 p j i hp hj hi
  · obtain ⟨hd, n, g1, g2, g3, g4, g5, g6, g7⟩ := c4 ch hch
    have h0 : ∀ j, σ' 0 ch j = σ 0 ch j := fun j => hc 0 ch j rfl
    refine ⟨hd, n, g1, g2, by rw [h0]; exact g3, by rw [h0]; exact g4, fun j hj => ?_, ?_, ?_⟩
    · rw [hm 14 4 _ rfl, hc 11 _ _ (i11 _ (by omega))]; exact g5 j hj
    · rw [h0, h0, hm 11 16 _ rfl]; exact g6
    · rw [h0, h0, h0]; exact g7
  · obtain ⟨W, T, c, s, ln, g1, g2, g3, g4, g5, g6, g7, g8, g9, g10⟩ := c5
    refine ⟨W, T, c, s, ln, g1, g2, by rw [hc 2 0 2 rfl]; exact g3, by rw [hc 6 0 5 rfl]; exact g4, by rw [hc 2 0 3 rfl]; exact g5, by rw [hc 2 0 4 rfl]; exact g6, by rw [hm 7 0 4 rfl]; exact g7, fun j hj => ?_, ?_, ?_⟩
    · rw [hc 11 1 j rfl, hc 11 0 j rfl]; exact g8 j hj
    · rw [hc 6 0 7 rfl]; exact g9
    · rw [hc 6 0 7 rfl]; exact g10
theorem NB.move (h : NB σ) (hc : ∀ k i j, isM k i = false → σ' k i j = σ k i j) : NB σ' := fun h7 => by
  rw [hc 6 0 7 rfl] at h7
  obtain ⟨h1, h2⟩ := h h7
  refine ⟨fun K hK => by rw [hc 5 K 8 rfl]; exact h1 K hK, fun ch hch => ?_⟩
  rw [hc 0 ch 5 rfl, hc 0 ch 6 rfl, hc 0 ch 7 rfl]
  exact h2 ch hch
/-- what holds at every turn of the law -/
def JI (b : Nat) (ρ : mSg) : Prop := KI b ρ ρ ρ ρ ∧ NB ρ
theorem JI.mono (h : JI b ρ) (hb : b ≤ b') : JI b' ρ := ⟨h.1.mono hb, h.2⟩
theorem JI.thr (h : JI b ρ) (t : Int32) : JI b (mq_up ρ 7 0 0 t) := by
  have hc : ∀ k i j, isM k i = false → mq_up ρ 7 0 0 t k i j = ρ k i j := fun k i j e => by
    rw [up_nk]
    rintro rfl
    cases e
  exact ⟨(h.1.thr t).move hc (fun _ _ _ _ => rfl), h.2.move hc⟩
theorem jt {d mi : Nat} {as : List mLV} {t : Int32} {σ1 μ1 : mSg} (h : KI b' ρ (mq_up σ1 7 0 0 t) σ1 μ1) (hJ : NB σ1) : JI b' μ1 ∧ μ1 7 0 0 = t := by
  have hc : ∀ k i j, isM k i = false → μ1 k i j = σ1 k i j := fun k i j e => by
    rw [h.1.1.2.2.1 k i j e, up_nk]
    rintro rfl
    cases e
  exact ⟨⟨h.move hc (fun _ _ _ _ => rfl), hJ.move hc⟩, h.1.1.2.2.2.trans (up_eq _ _ _ _ _)⟩
theorem joint_v {d e mi mj : Nat} {as bs : List mLV} {kd : Nat → Int32 → Prop} (op : ∀ σ μ, KI b σ μ σ μ → NB σ → OV kd b' σ μ (Sp d mi as σ) (Sp e mj bs μ)) (h : JI b ρ) :
    ∃ t rC ρ1 ρ2, Sp d mi as ρ rC ρ1 ∧ Sp e mj bs ρ1 (.inl none) ρ2 ∧ JI b' ρ2 ∧ ρ2 7 0 0 = t ∧ ((rC = .inl none ∧ t = 0) ∨ ∃ x, rC = .inr x ∧ kd x t) := by
  obtain ⟨_, rC, ρ1, _, a1, -, a3, -, -⟩ := op ρ ρ h.1 h.2
  obtain ⟨t, rC', σ1, ρ2, b1, b2, b3, b4, b5⟩ := op ρ ρ1 (h.1.move (fun _ _ _ _ => rfl) a3.1.1.2.1) h.2
  obtain ⟨rfl, rfl⟩ := sp_det a1 b1
  obtain ⟨j1, j2⟩ := jt (d := d) (mi := mi) (as := as) b3 b4
  exact ⟨t, rC, ρ1, ρ2, a1, b2, j1, j2, b5⟩
theorem joint_w {d e mi mj : Nat} {as bs : List mLV} {kd : Nat → Int32 → Prop} (op : ∀ σ μ, KI b σ μ σ μ → NB σ → OW kd b' σ μ (Sp d mi as σ) (Sp e mj bs μ)) (h : JI b ρ) :
    ∃ t rC v ρ1 ρ2, Sp d mi as ρ rC ρ1 ∧ Sp e mj bs ρ1 (rI v) ρ2 ∧ JI b' ρ2 ∧ ρ2 7 0 0 = t ∧ ((rC = rI v ∧ t = 0) ∨ ∃ x, rC = .inr x ∧ kd x t) := by
  obtain ⟨_, rC, _, ρ1, _, a1, -, a3, -, -⟩ := op ρ ρ h.1 h.2
  obtain ⟨t, rC', v, σ1, ρ2, b1, b2, b3, b4, b5⟩ := op ρ ρ1 (h.1.move (fun _ _ _ _ => rfl) a3.1.1.2.1) h.2
  obtain ⟨rfl, rfl⟩ := sp_det a1 b1
  obtain ⟨j1, j2⟩ := jt (d := d) (mi := mi) (as := as) b3 b4
  exact ⟨t, rC, v, ρ1, ρ2, a1, b2, j1, j2, b5⟩
end JOINT
