/-! The calls that set up, begin and run: class and reference alike. -/
/-- before it has begun: no deadline runs, no word is on its way -/
def NB (σ : mSg) : Prop := σ 6 0 7 = 0 → (∀ K, K < 32 → σ 5 K 8 = -1) ∧ ∀ ch, ch < 8 → σ 0 ch 5 = 0 ∧ σ 0 ch 6 = 0 ∧ σ 0 ch 7 = -1
/-- which throw goes with which number -/
def kd3 (x : Nat) (t : Int32) : Prop := (x = 50 ∧ t = 1) ∨ (x = 51 ∧ t = 2) ∨ (x = 52 ∧ t = 3)
def kd5 (x : Nat) (t : Int32) : Prop := x = 50 ∧ t = 1
def kd6 (x : Nat) (t : Int32) : Prop := x = 52 ∧ t = 1
def kd7 (x : Nat) (t : Int32) : Prop := (x = 51 ∧ t = 1) ∨ (x = 52 ∧ t = 2)
/-- a call that answers nothing, on both sides -/
def OV (kd : Nat → Int32 → Prop) (b : Nat) (σ μ : mSg) (C M : mRz → mSg → Prop) : Prop := ∃ t rC σ1 μ1, C rC σ1 ∧ M (.inl none) μ1 ∧ KI b σ (mq_up μ 7 0 0 t) σ1 μ1 ∧ NB σ1 ∧ ((rC = .inl none ∧ t = 0) ∨ ∃ x, rC = .inr x ∧ kd x t)
/-- a call that answers an int, on both sides -/
def OW (kd : Nat → Int32 → Prop) (b : Nat) (σ μ : mSg) (C M : mRz → mSg → Prop) : Prop := ∃ t rC v σ1 μ1, C rC σ1 ∧ M (rI v) μ1 ∧ KI b σ (mq_up μ 7 0 0 t) σ1 μ1 ∧ NB σ1 ∧ ((rC = rI v ∧ t = 0) ∨ ∃ x, rC = .inr x ∧ kd x t)
section SET
variable {d e b p : Nat} {σ μ σ0 μ0 : mSg} {x1 x2 x3 x4 x5 : Int32} {C M : mRz → mSg → Prop} {kd : Nat → Int32 → Prop}
theorem OV.thr (h : KI b σ0 μ0 σ μ) (hJ : NB σ) {x : Nat} {t : Int32} (hC : C (.inr x) σ) (hM : M (.inl none) (mq_up μ 7 0 0 t)) (hk : kd x t) : OV kd b σ μ C M := ⟨t, .inr x, σ, mq_up μ 7 0 0 t, hC, hM, h.thr t, hJ, Or.inr ⟨x, rfl, hk⟩⟩
theorem OW.thr (h : KI b σ0 μ0 σ μ) (hJ : NB σ) {x : Nat} {t v : Int32} (hC : C (.inr x) σ) (hM : M (rI v) (mq_up μ 7 0 0 t)) (hk : kd x t) : OW kd b σ μ C M := ⟨t, .inr x, v, σ, mq_up μ 7 0 0 t, hC, hM, h.thr t, hJ, Or.inr ⟨x, rfl, hk⟩⟩
theorem in01_of {x y : Int32} (h : ¬ in01 x y = 0) : ¬ x < 0 ∧ x < y := Decidable.byContradiction fun c => h (in01_0 c)
theorem KI.win (h : KI b σ0 μ0 σ μ) {W p L : Nat} (hW : W < 8) (hp : p < 4) (hL : 1 ≤ L ∧ L ≤ 100) (h7 : σ 6 0 7 = 0) (h2 : σ 2 0 2 = nI W) : KI b σ0 μ0 (mq_up (mq_up (mq_up σ 11 0 W (nI p)) 11 1 W (nI L)) 2 0 2 (nI (W + 1))) (mq_up (mq_up (mq_up (mq_up μ 11 10 W (nI p)) 11 11 W (nI L)) 7 0 4 (μ 7 0 4 + nI L)) 7 0 3 (nI (W + 1))) := by
  obtain ⟨⟨h1, hPI, h3⟩, ⟨c1, c2, c3, c4, c5⟩, h5⟩ := h
  have l0 : lk 11 0 W = some (11, 10, W) := by show (if 0 < 2 ∧ W < 8 then some (11, 10, W) else none) = _; rw [if_pos (by omega)]
  have l1 : lk 11 1 W = some (11, 11, W) := by show (if 1 < 2 ∧ W < 8 then some (11, 11, W) else none) = _; rw [if_pos (by omega)]
  refine ⟨⟨((((h1.both l0 _).both l1 _).right (k' := 7) (i' := 0) (j' := 4) rfl rfl _).both (k := 2) (i := 0) (j := 2) rfl _), fun K hK => hPI K hK, og_eq h3 (fun _ => rfl) (fun _ => rfl) (fun _ => rfl) (fun _ => rfl) rfl⟩, ⟨c1, c2, c3, fun ch hch => ?_, ?_⟩, h5.frame (fun _ => rfl) (Nat.le_refl _)⟩
  · obtain ⟨hd, n, g1, g2, g3, g4, g5, g6, g7⟩ := c4 ch hch
    refine ⟨hd, n, g1, g2, g3, g4, fun j hj => ?_, g6, g7⟩
    refine (g5 j hj).trans ?_
    rw [up_nk (by decide), up_ni (by omega), up_ni (by omega)]
  · obtain ⟨W', T, c, s, ln, g1, g2, g3, g4, g5, g6, g7, g8, g9, g10⟩ := c5
    have hWW : W' = W := by rw [h2] at g3; exact ((nI_eq (by omega) (by omega)).mp g3).symm
    subst hWW
    have hs : ∀ n, n ≤ W' → sumN (fun j => if j = W' then L else ln j) n = sumN ln n := fun n hn => by
      induction n with
      | zero => rfl
      | succ n ih =>
        show sumN _ n + (if n = W' then L else ln n) = sumN ln n + ln n
        rw [ih (by omega), if_neg (by omega)]
    refine ⟨W' + 1, T, c, s, fun j => if j = W' then L else ln j, by omega, g2, rfl, g4, g5, g6, ?_, fun j hj => ?_, g9, fun z => absurd h7 z⟩
    · show μ 7 0 4 + nI L = nI (sumN _ W' + (if W' = W' then L else ln W'))
      rw [if_pos rfl, hs W' (Nat.le_refl _), g7, nI_add]
    · show 1 ≤ (if j = W' then L else ln j) ∧ (if j = W' then L else ln j) ≤ 100 ∧ _
      by_cases ej : j = W'
      · subst ej
        rw [if_pos rfl]
        refine ⟨hL.1, hL.2, ?_, p, hp, ?_⟩
        · rw [up_nk (by decide), up_eq]; show nI L = nI (if j = j then L else ln j); rw [if_pos rfl]
        · rw [up_nk (by decide), up_ni (by decide), up_eq]
      · rw [if_neg ej]
        obtain ⟨a1, a2, a3, o, a4, a5⟩ := g8 j (by omega)
        refine ⟨a1, a2, ?_, o, a4, ?_⟩
        · rw [up_nk (by decide), up_nj ej, up_ni (by decide), a3]; show _ = nI (if j = W' then L else ln j); rw [if_neg ej]
        · rw [up_nk (by decide), up_ni (by decide), up_nj ej]; exact a5
theorem set_window (h : KI b σ0 μ0 σ μ) (hJ : NB σ) : OV kd3 b σ μ (Sp (d + 2) 71 [.inr (some (6, 0)), .inl x1, .inl x2] σ) (Sp (e + 2) 135 [.inr (some (7, 0)), .inl x1, .inl x2] μ) := by
  have e7 : μ 7 0 1 = σ 6 0 7 := h.1.1.get (k := 6) (i := 0) (j := 7) rfl
  have e3 : μ 7 0 3 = σ 2 0 2 := h.1.1.get (k := 2) (i := 0) (j := 2) rfl
  by_cases hin : in01 x1 4 = 0
  · exact OV.thr h hJ (P71_1 S86 hin) (P135_1 S101 hin (by decide)) (Or.inl ⟨rfl, rfl⟩)
  · obtain ⟨p, hp, rfl⟩ := of_lt (n := 4) (by decide) (in01_of hin).1 (in01_of hin).2
    by_cases h1 : x2 < 1
    · exact OV.thr h hJ (P71_2 S86 hin h1) (P135_3 S101 hin h1 (by decide)) (Or.inr (Or.inl ⟨rfl, rfl⟩))
    · by_cases h100 : 100 < x2
      · exact OV.thr h hJ (P71_3 S86 hin h1 h100) (P135_5 S101 hin h1 h100 (by decide)) (Or.inr (Or.inl ⟨rfl, rfl⟩))
      · by_cases h7 : σ 6 0 7 = 0
        · obtain ⟨W, T, c, s, ln, g1, g2, g3, -⟩ := h.2.1.2.2.2.2
          by_cases hW : W < 8
          · have hcb : ¬ (nI W < 0 ∨ 8 ≤ (nI W).toNatClampNeg) := nI_in hW (by decide)
            have h0 : ¬ x2 < 0 := fun z => h1 (Int32.lt_trans z (by decide))
            obtain ⟨L, hL, rfl⟩ := nI_of h0
            have hL1 : 1 ≤ L := Nat.le_of_not_lt fun z => h1 ((nI_ltI (b := 1) hL (by decide)).mpr z)
            have hL2 : L ≤ 100 := Nat.le_of_not_lt fun z => h100 ((nI_ltI (a := 100) (by decide) hL).mpr z)
            have t1 := P71_5 (σ := σ) (S86 (d := d)) hin h1 h100 h7 (P12_1 (d := d) (x1 := nI p) (x2 := nI L) (by rw [g3]; exact (nI_ltI (b := 8) (by omega) (by decide)).mpr hW) (by rw [g3]; exact hcb)) (by decide)
            have t2 := P135_10 (σ := μ) (d := e + 1) (x1 := nI p) (x2 := nI L) S101 hin h1 h100 (by rw [e7]; exact h7) (by rw [e3, g3]; exact fun z => absurd ((nI_eq (b := 8) (by omega) (by decide)).mp z) (by omega)) (by decide) (by rw [e3, g3]; exact hcb)
            rw [g3, nI_clamp (by omega), nI_1] at t1
            rw [e3, g3, nI_clamp (by omega), nI_1] at t2
            exact ⟨0, _, _, _, t1, t2, (h.thr 0).win hW hp ⟨hL1, hL2⟩ h7 g3, fun _ => ⟨(hJ h7).1, (hJ h7).2⟩, Or.inl ⟨rfl, rfl⟩⟩
          · have hW8 : W = 8 := by omega
            subst hW8
            exact OV.thr h hJ (P71_4 S86 hin h1 h100 h7 (P12_2 (by rw [g3]; decide)) rfl) (P135_7 S101 hin h1 h100 (by rw [e7]; exact h7) (by rw [e3, g3]; rfl) (by decide)) (Or.inr (Or.inr ⟨rfl, rfl⟩))
        · exact OV.thr h hJ (P71_6 S86 hin h1 h100 h7) (P135_11 S101 hin h1 h100 (by rw [e7]; exact h7) (by decide)) (Or.inr (Or.inr ⟨rfl, rfl⟩))
theorem wNew4 (w v : Int32) : wNew w v 0 4 = v := by
  show (w &&& ((-1 : Int32) <<< ((0 : Int32) &&& 31) ^^^ (-1))) ||| (v <<< ((0 : Int32) &&& 31) &&& (-1 : Int32) <<< ((0 : Int32) &&& 31)) = v
  have e : ∀ x : Int32, x <<< ((0 : Int32) &&& 31) = x := fun x => by
    apply Int32.toBitVec_inj.mp
    rw [Int32.toBitVec_shiftLeft]
    show x.toBitVec <<< _ = _
    exact BitVec.shiftLeft_zero _
  rw [e, e]
  rw [show (-1 : Int32) ^^^ (-1) = 0 from by decide, Int32.and_zero, Int32.zero_or, Int32.and_neg_one]
theorem set_poke (h : KI b σ0 μ0 σ μ) (hJ : NB σ) : OV kd5 b σ μ (Sp (d + 3) 75 [.inr (some (6, 0)), .inl x1, .inl x2, .inl x3] σ) (Sp (e + 3) 139 [.inr (some (7, 0)), .inl x1, .inl x2, .inl x3] μ) := by
  rcases part_cases x1 with ⟨p, hp, rfl, s89, hin⟩ | ⟨s89, hin⟩
  · rcases place_both (s := 4) x2 (Or.inr (Or.inr rfl)) with ⟨n, hn, hn4, rfl, c16, c107⟩ | ⟨c16, c107⟩
    · have t := (h.thr 0).store (v := x3) hp hn (Or.inr (Or.inr rfl)) hn4
      rw [hn4, wNew4] at t
      exact ⟨0, _, _, _, P75_3 (s89 _ _) (c16 _ _) (by decide) (S18 hn hn4), P139_5 S101 (by rw [hin]; decide) (c107 _ _) (by decide) rfl (S109 (s := 4) (Nat.le_refl _) (by omega)), t, hJ, Or.inl ⟨rfl, rfl⟩⟩
    · exact OV.thr h hJ (P75_2 (s89 _ _) (c16 _ _) rfl) (P139_4 S101 (by rw [hin]; decide) (c107 _ _) rfl (by decide)) ⟨rfl, rfl⟩
  · exact OV.thr h hJ (P75_1 (s89 _ _)) (P139_2 S101 hin (by decide)) ⟨rfl, rfl⟩
theorem KI.act (h : KI b σ0 μ0 σ μ) (hp : p < 4) {s v : Nat} (hs : s < 4) (hv : v ≤ 4) : KI b σ0 μ0 (mq_up σ 10 (2 * p + 1) s (nI v)) (mq_up μ 12 0 (4 * p + s) (nI v)) := by
  obtain ⟨⟨h1, h2, h3⟩, ⟨c1, c2, c3, c4, c5⟩, h5⟩ := h
  refine ⟨⟨h1.both (lk_a hp hs) _, fun K hK => h2 K hK, og_eq h3 (fun _ => rfl) (fun _ => rfl) (fun _ => rfl) (fun _ => rfl) rfl⟩, ⟨?_, ⟨fun p' s' hp' hs' => ?_, fun h7 p' s' hp' hs' => ?_⟩, c3, c4, c5⟩, h5.frame (fun _ => rfl) (Nat.le_refl _)⟩
  · obtain ⟨g1, g2, g3, n, g4, g5⟩ := c1
    refine ⟨g1, g2, fun p' e hp' he => ?_, n, g4, g5⟩
    by_cases ee : p' = p ∧ e = s
    · obtain ⟨rfl, rfl⟩ := ee
      exact ⟨v, hv, up_eq _ _ _ _ _⟩
    · rw [up_if, if_neg (by omega)]
      exact g3 p' e hp' he
  · rw [up_ni (by omega)]
    exact c2.1 p' s' hp' hs'
  · rw [up_ni (by omega)]
    exact c2.2 h7 p' s' hp' hs'
theorem set_action (h : KI b σ0 μ0 σ μ) (hJ : NB σ) : OV kd3 b σ μ (Sp (d + 3) 74 [.inr (some (6, 0)), .inl x1, .inl x2, .inl x3] σ) (Sp (e + 2) 138 [.inr (some (7, 0)), .inl x1, .inl x2, .inl x3] μ) := by
  rcases part_cases x1 with ⟨p, hp, rfl, s89, hin⟩ | ⟨s89, hin⟩
  · by_cases h0 : x2 < 0
    · exact OV.thr h hJ (P74_2 (s89 _ _) h0) (P138_4 S101 (by rw [hin]; decide) S101 (in01_0 (fun c => c.1 h0)) (by decide)) (Or.inl ⟨rfl, rfl⟩)
    · by_cases h4 : x2 < 4
      · have hin2 : ¬ in01 x2 4 = 0 := by rw [in01_1 h0 h4]; decide
        obtain ⟨s, hs, rfl⟩ := of_lt (n := 4) (by decide) h0 h4
        by_cases g0 : x3 < 0
        · exact OV.thr h hJ (P74_3 (s89 _ _) h0 h4 g0) (P138_6 S101 (by rw [hin]; decide) S101 hin2 S101 (in01_0 (fun c => c.1 g0)) (by decide)) (Or.inr (Or.inl ⟨rfl, rfl⟩))
        · obtain ⟨v, hv, rfl⟩ := nI_of g0
          by_cases g4 : 4 < v
          · exact OV.thr h hJ (P74_4 (s89 _ _) h0 h4 g0 ((nI_ltI (a := 4) (by decide) hv).mpr g4)) (P138_6 S101 (by rw [hin]; decide) S101 hin2 S101 (in01_0 (fun c => absurd ((nI_ltI (b := 5) hv (by decide)).mp c.2) (by omega))) (by decide)) (Or.inr (Or.inl ⟨rfl, rfl⟩))
          · have t1 := P74_5 (d := d + 2) (σ := σ) (x1 := nI p) (x2 := nI s) (x3 := nI v) (s89 _ _) h0 h4 g0 (fun z => g4 ((nI_ltI (a := 4) (by decide) hv).mp z)) (nI_in hs (by decide))
            have t2 := P138_7 (d := e + 1) (σ := μ) (x1 := nI p) (x2 := nI s) (x3 := nI v) S101 (by rw [hin]; decide) S101 hin2 S101 (by rw [show in01 (nI v) 5 = 1 from in01_1 g0 ((nI_ltI (b := 5) hv (by decide)).mpr (by omega))]; decide) rfl (by rw [ix4]; exact nI_in (show 4 * p + s < 16 by omega) (by decide))
            rw [nI_clamp (by omega)] at t1
            rw [ix4, nI_clamp (by omega)] at t2
            exact ⟨0, _, _, _, t1, t2, (h.thr 0).act hp hs (by omega), hJ, Or.inl ⟨rfl, rfl⟩⟩
      · exact OV.thr h hJ (P74_6 (s89 _ _) h0 h4) (P138_4 S101 (by rw [hin]; decide) S101 (in01_0 (fun c => h4 c.2)) (by decide)) (Or.inl ⟨rfl, rfl⟩)
  · exact OV.thr h hJ (P74_1 (s89 _ _)) (P138_2 S101 hin (by decide)) (Or.inl ⟨rfl, rfl⟩)
end SET
