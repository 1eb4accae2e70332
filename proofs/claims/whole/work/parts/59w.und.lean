/-! frames of what is read -/
def oA : List Nat := [1, 6, 7, 11, 12, 13, 14, 15, 16, 17, 18, 19, 20, 33, 34, 35, 36, 41, 42, 43, 44, 45, 46, 47, 48, 53, 54, 55, 56]
def oB : List Nat := [2, 3, 4, 13, 14, 16, 17, 18, 19, 20, 21, 22, 23, 24, 25, 26, 27, 28, 30, 31, 32]
def oW : List (Nat × Nat) := [(10, 10), (10, 11), (32, 4), (40, 8), (52, 6)]
def oV : List (Nat × Nat) := [(0, 22), (0, 21), (0, 33), (0, 38), (0, 54)]
theorem OPN_fr {W W' : List (Nat × Nat)} {A A' : List Nat} {σ τ s t : am_S} {N U : Nat} {fs a z bnd wb : Nat → Nat} (h : OPN σ τ N U fs a z bnd wb) (f : FR W A σ s) (g : FR W' A' τ t) (n1 : oA.all (fun k => !A.contains k) = true) (n2 : oB.all (fun k => !A'.contains k) = true) (n3 : oW.all (fun k => !W.contains k) = true) (n4 : oV.all (fun k => !W'.contains k) = true) : OPN s t N U fs a z bnd wb := by
  have cb : ∀ k, k ∈ oA → A.contains k = false := fun k hk => by
    have := List.all_eq_true.mp n1 k hk
    rwa [Bool.not_eq_true'] at this
  have db : ∀ k, k ∈ oB → A'.contains k = false := fun k hk => by
    have := List.all_eq_true.mp n2 k hk
    rwa [Bool.not_eq_true'] at this
  have cw : ∀ k, k ∈ oW → W.contains k = false := fun k hk => by
    have := List.all_eq_true.mp n3 k hk
    rwa [Bool.not_eq_true'] at this
  have dw : ∀ k, k ∈ oV → W'.contains k = false := fun k hk => by
    have := List.all_eq_true.mp n4 k hk
    rwa [Bool.not_eq_true'] at this
  have e1 : s.2.1 1 = σ.2.1 1 := fr_b f (cb 1 (by decide))
  refine ⟨EV_fr (OPN_ev h) f g ?_ ?_, ?_, ?_, ?_, ?_, ?_, ?_, ?_, ?_, ?_⟩
  · rw [Bool.and_eq_true, List.all_eq_true, List.all_eq_true]
    refine ⟨fun k hk => ?_, fun k hk => ?_⟩
    · rw [cb k (by revert k; decide)]; rfl
    · rw [db k (by revert k; decide)]; rfl
  · rw [cb 6 (by decide), cb 7 (by decide), db 3 (by decide), db 4 (by decide), cw (10, 10) (by decide), cw (10, 11) (by decide), dw (0, 22) (by decide), dw (0, 21) (by decide)]; rfl
  · refine RN_fr (OPN_rn h) f g ?_
    rw [cw (32, 4) (by decide), cb 33 (by decide), cb 34 (by decide), dw (0, 33) (by decide), db 23 (by decide), db 24 (by decide)]; rfl
  · intro i hi u hu
    have := OPN_dn h i hi u hu
    unfold DN rsv rsp bas orP at *
    rw [fr_b g (db 13 (by decide)), fr_b g (db 16 (by decide)), fr_b g (db 17 (by decide)), fr_b g (db 19 (by decide)), fr_b g (db 20 (by decide)), fr_c g (db 21 (by decide)), e1, fr_c f (cb 11 (by decide)), fr_c f (cb 16 (by decide))]
    exact this
  · have := OPN_bn h
    unfold BN at *
    rw [fr_b f (cb 35 (by decide)), fr_b f (cb 36 (by decide)), fr_b g (db 22 (by decide))]
    exact this
  · rw [fr_b g (db 22 (by decide))]; exact OPN_bN h
  · refine RW_fr (OPN_rw h) f g ?_
    rw [cw (40, 8) (by decide), cb 41 (by decide), cb 42 (by decide), cb 43 (by decide), cb 44 (by decide), dw (0, 38) (by decide), db 30 (by decide), db 31 (by decide), db 27 (by decide), db 32 (by decide)]; rfl
  · intro v hv
    refine FU_fr (OPN_fu h v hv) f g ?_
    rw [cb 1 (by decide), cb 47 (by decide), cb 48 (by decide), db 25 (by decide), db 26 (by decide)]; rfl
  · have := OPN_wb h
    unfold WB at *
    rw [fr_b f (cb 45 (by decide)), fr_b f (cb 46 (by decide)), fr_b g (db 28 (by decide))]
    exact this
  · rw [fr_b g (db 28 (by decide))]; exact OPN_wN h
  · have := OPN_sy h
    unfold SYM SY1 at *
    rw [fr_i f (cw (52, 6) (by decide)), fr_i g (dw (0, 54) (by decide)), e1, fr_b f (cb 53 (by decide)), fr_b f (cb 54 (by decide)), fr_c f (cb 55 (by decide)), fr_c f (cb 56 (by decide))]
    exact this
/-! an entry under another, both sides -/
theorem LK_11 {x : Int64} : x = 11 → LK x := fun h => Or.inr (Or.inr (Or.inr h))
theorem un_1 {σ τ : am_S} {N U hh : Nat} {fs A Z bnd wb : Nat → Nat} {x : Int64} (h : OPN σ τ N U fs A Z bnd wb) (hx : τ.1.2 0 59 = x) (hh' : hh < N) : ∀ d a i, DP σ d a → a < N → i + d + 1 ≤ 16 → ∀ n n', d + 2 < n → d + 2 < n' → ∃ b : Bool, g_Fr_isIn_14 n (nI hh) x (nI a) (nI i) σ = some (bi b, σ) ∧ g_Mo_isUnder_7 n' (nI hh) (nI a) τ = some (bi b, τ) ∧ (b = true → hh ≤ a ∧ σ.2.1 13 hh = σ.2.1 13 a ∧ ∃ e, e ≤ d ∧ DP σ e hh) := by
  have hl := EV_l (OPN_ev h)
  intro d
  induction d with
  | zero =>
    intro a i hD ha hi n n' hn hn'
    obtain ⟨n, rfl⟩ : ∃ z, n = z + 2 := ⟨n - 2, by omega⟩
    obtain ⟨n', rfl⟩ : ∃ z, n' = z + 2 := ⟨n' - 2, by omega⟩
    obtain ⟨u, hu, E⟩ := EV_en (OPN_ev h) a ha
    have h12 : σ.2.1 12 a = -1 := hD
    unfold g_Fr_isIn_14 g_Mo_isUnder_7
    rw [if_pos (show nI i < 16 from nI_lt (b := 16) (by omega) (by omega))]
    by_cases c : a = hh
    · subst c
      exact ⟨true, by rw [if_pos rfl]; unfold g_Fr_isIn_97 g_Fr_isIn_108; rw [if_pos rfl]; rfl, by rw [if_pos rfl]; unfold g_Mo_isUnder_46 g_Mo_isUnder_56; rw [if_pos rfl]; rfl, fun _ => ⟨Nat.le_refl _, rfl, 0, Nat.le_refl _, hD⟩⟩
    · have cne : ¬ nI a = nI hh := fun z => c ((nI_eq (by omega) (by omega)).mp z)
      rw [if_neg cne, if_neg (nI_ne (by omega)), inb_nI (by omega) (by decide), gd_t, nI_clamp (by omega), if_neg cne, if_neg (nI_ne (by omega)), gd_t, E.2.2.1]
      have t11 : lg_cmp (σ.2.2 11 a) 11 = 0 ↔ tg (σ.2.2 11 a) = 11 := by rw [cmp_eq]; exact (tg_eq (c := 11) (by omega) (by omega)).symm
      by_cases ct : tg (σ.2.2 11 a) = 11
      · have cL := (tg_eq (c := 11) (by omega) (by omega)).mp ct
        rw [if_pos (t11.mpr ct), if_pos ct, lp_c (x := x) h ha (LK_11 cL), lp_m h ha hx (LK_11 cL), bd_t]
        cases hp : PSB τ x bnd a with
        | true =>
          refine ⟨false, ?_, ?_, fun z => by cases z⟩
          · rw [if_pos rfl]
            unfold g_Fr_isIn_79
            rw [inb_nI (by omega) (by decide), gd_t, nI_clamp (by omega), h12, show nI i + 1 = nI (i + 1) from nI_add i 1]
            unfold g_Fr_isIn_14
            by_cases ci : i + 1 < 16
            · rw [if_pos (show nI (i + 1) < 16 from nI_lt (b := 16) (by omega) (by omega)), if_neg (fun z => nI_ne (n := hh) (by omega) z.symm), if_pos rfl]
              rfl
            · rw [if_neg (show ¬ nI (i + 1) < 16 from nI_nlt (b := 16) (by omega) (by omega))]
              unfold g_Fr_isIn_97 g_Fr_isIn_108
              rw [if_neg (fun z => nI_ne (n := hh) (by omega) z.symm)]
              rfl
          · rw [if_neg (show ¬ bi true = 0 by decide), ← E.2.2.2.1, h12]
            unfold g_Mo_isUnder_7 g_Mo_isUnder_46 g_Mo_isUnder_56
            rw [if_neg (fun z => nI_ne (n := hh) (by omega) z.symm), if_pos rfl, gd_t, if_neg (fun z => nI_ne (n := hh) (by omega) z.symm)]
            rfl
        | false =>
          refine ⟨false, ?_, ?_, fun z => by cases z⟩
          · rw [if_neg (by decide)]; rfl
          · rw [if_pos (show bi false = 0 by decide)]
            unfold g_Mo_isUnder_46 g_Mo_isUnder_56
            rw [if_neg cne]
            rfl
      · rw [if_neg (fun z => ct (t11.mp z)), if_neg ct]
        refine ⟨false, rfl, ?_, fun z => by cases z⟩
        unfold g_Mo_isUnder_46 g_Mo_isUnder_56
        rw [if_neg cne]
        rfl
  | succ d ih =>
    intro a i hD ha hi n n' hn hn'
    obtain ⟨n, rfl⟩ : ∃ z, n = z + 1 := ⟨n - 1, by omega⟩
    obtain ⟨n', rfl⟩ : ∃ z, n' = z + 1 := ⟨n' - 1, by omega⟩
    obtain ⟨u, hu, E⟩ := EV_en (OPN_ev h) a ha
    have hD0 := hD
    obtain ⟨p, hp, h12, hDp, h13⟩ := hD
    unfold g_Fr_isIn_14 g_Mo_isUnder_7
    rw [if_pos (show nI i < 16 from nI_lt (b := 16) (by omega) (by omega))]
    by_cases c : a = hh
    · subst c
      exact ⟨true, by rw [if_pos rfl]; unfold g_Fr_isIn_97 g_Fr_isIn_108; rw [if_pos rfl]; rfl, by rw [if_pos rfl]; unfold g_Mo_isUnder_46 g_Mo_isUnder_56; rw [if_pos rfl]; rfl, fun _ => ⟨Nat.le_refl _, rfl, d + 1, Nat.le_refl _, hD0⟩⟩
    · have cne : ¬ nI a = nI hh := fun z => c ((nI_eq (by omega) (by omega)).mp z)
      rw [if_neg cne, if_neg (nI_ne (by omega)), inb_nI (by omega) (by decide), gd_t, nI_clamp (by omega), if_neg cne, if_neg (nI_ne (by omega)), gd_t, E.2.2.1]
      have t11 : lg_cmp (σ.2.2 11 a) 11 = 0 ↔ tg (σ.2.2 11 a) = 11 := by rw [cmp_eq]; exact (tg_eq (c := 11) (by omega) (by omega)).symm
      by_cases ct : tg (σ.2.2 11 a) = 11
      · have cL := (tg_eq (c := 11) (by omega) (by omega)).mp ct
        rw [if_pos (t11.mpr ct), if_pos ct, lp_c (x := x) h ha (LK_11 cL), lp_m h ha hx (LK_11 cL), bd_t]
        cases hq : PSB τ x bnd a with
        | true =>
          obtain ⟨b, e1, e2, e3⟩ := ih p (i + 1) hDp (by omega) (by omega) n n' (by omega) (by omega)
          refine ⟨b, ?_, ?_, fun z => ?_⟩
          · rw [if_pos rfl]
            unfold g_Fr_isIn_79
            rw [inb_nI (by omega) (by decide), gd_t, nI_clamp (by omega), h12, show nI i + 1 = nI (i + 1) from nI_add i 1]
            exact e1
          · rw [if_neg (show ¬ bi true = 0 by decide), ← E.2.2.2.1, h12]
            show am_gd _ (g_Mo_isUnder_7 n' (nI hh) (nI p) τ) = _
            rw [gd_t]
            exact e2
          · obtain ⟨q1, q2, e, q3, q4⟩ := e3 z
            exact ⟨by omega, q2.trans h13, e, by omega, q4⟩
        | false =>
          refine ⟨false, ?_, ?_, fun z => by cases z⟩
          · rw [if_neg (by decide)]; rfl
          · rw [if_pos (show bi false = 0 by decide)]
            unfold g_Mo_isUnder_46 g_Mo_isUnder_56
            rw [if_neg cne]
            rfl
      · rw [if_neg (fun z => ct (t11.mp z)), if_neg ct]
        refine ⟨false, rfl, ?_, fun z => by cases z⟩
        unfold g_Mo_isUnder_46 g_Mo_isUnder_56
        rw [if_neg cne]
        rfl
theorem un_2 {σ τ : am_S} {N U hh e : Nat} {fs A Z bnd wb : Nat → Nat} {x : Int64} (h : OPN σ τ N U fs A Z bnd wb) (hx : τ.1.2 0 59 = x) (hh' : hh < N) (he : e < N) : ∃ b : Bool, g_Fr_isIn (nI e) (nI hh) x σ = some (bi b, σ) ∧ g_Mo_isUnder (nI e) (nI hh) τ = some (bi b, τ) ∧ (b = true → hh < e ∧ σ.2.1 13 hh = σ.2.1 13 e ∧ ∀ d, DP σ d e → ∃ k, k < d ∧ DP σ k hh) := by
  have hl := EV_l (OPN_ev h)
  obtain ⟨u, hu, E⟩ := EV_en (OPN_ev h) e he
  obtain ⟨_, _, _, h18, _, _, ⟨d, hd, hD, _⟩, _⟩ := E
  unfold g_Fr_isIn g_Mo_isUnder
  rw [inb_nI (by omega) (by decide), gd_t, gd_t, nI_clamp (by omega), ← h18]
  have uq : ∀ d' : Nat, ∀ d, ∀ e, e < N → DP σ d e → DP σ d' e → d = d' := by
    intro d'
    induction d' with
    | zero =>
      intro d e he h1 h2
      cases d with
      | zero => rfl
      | succ d =>
        obtain ⟨p, hp, q, _⟩ := h1
        have h2' : σ.2.1 12 e = -1 := h2
        exact absurd (q.symm.trans h2') (nI_ne (by omega))
    | succ d' ih =>
      intro d e he h1 h2
      obtain ⟨p, hp, q, h3, _⟩ := h2
      cases d with
      | zero =>
        have h1' : σ.2.1 12 e = -1 := h1
        exact absurd (q.symm.trans h1') (nI_ne (by omega))
      | succ d =>
        obtain ⟨p', hp', q', h4, _⟩ := h1
        have : p' = p := (nI_eq (by omega) (by omega)).mp (q'.symm.trans q)
        subst this
        rw [ih d p' (by omega) h4 h3]
  cases d with
  | zero =>
    have h12 : σ.2.1 12 e = -1 := hD
    rw [h12]
    refine ⟨false, ?_, ?_, fun z => by cases z⟩
    · rw [show g_Fr_isIn_14 4000 = g_Fr_isIn_14 (3999 + 1) from rfl]
      unfold g_Fr_isIn_14
      rw [if_pos (by decide), if_neg (fun z => nI_ne (n := hh) (by omega) z.symm), if_pos rfl]
      rfl
    · rw [show g_Mo_isUnder_7 4000 = g_Mo_isUnder_7 (3999 + 1) from rfl]
      unfold g_Mo_isUnder_7 g_Mo_isUnder_46 g_Mo_isUnder_56
      rw [if_neg (fun z => nI_ne (n := hh) (by omega) z.symm), if_pos rfl, if_neg (fun z => nI_ne (n := hh) (by omega) z.symm)]
      rfl
  | succ d =>
    obtain ⟨p, hp, q, h3, h13⟩ := id hD
    obtain ⟨b, e1, e2, e3⟩ := un_1 h hx hh' d p 0 h3 (by omega) (by omega) 4000 4000 (by omega) (by omega)
    rw [q]
    refine ⟨b, e1, e2, fun z => ?_⟩
    obtain ⟨q1, q2, k, q3, q4⟩ := e3 z
    refine ⟨by omega, q2.trans h13, fun d1 h1 => ?_⟩
    have := uq (d + 1) d1 e he h1 hD
    exact ⟨k, by omega, q4⟩
