theorem ms_ok {a b a9 b9 : Nat} {σ : am_S} (h3 : σ.2.1 3 8 = nI a) (h4 : σ.2.1 4 8 = nI (b - a)) (hab : a ≤ b) (hb : b ≤ 3000) (h39 : σ.2.1 3 9 = nI a9) (h49 : σ.2.1 4 9 = nI (b9 - a9)) (hab9 : a9 ≤ b9) (hb9 : b9 ≤ 3000) : g_Mo_readSymbols σ = some (if (b - a) % 24 = 0 ∧ (b - a) / 24 ≤ 60 ∧ symOK (σ.2.1 2) a a9 b9 ((b - a) / 24) 0 = true then 1 else 0, am_fi σ 0 54 (nI ((b - a) / 24))) := by
  have e8 : (8 : Int32).toNatClampNeg = 8 := by decide
  have ed : nI (b - a) / 24 = nI ((b - a) / 24) := pk_div (d := 24) (by omega) (by decide) (by decide)
  have er : nI (b - a) - nI (b - a) / 24 * 24 = nI ((b - a) % 24) := pk_rem (d := 24) (by omega) (by decide) (by decide)
  have h4' : (am_fi σ 0 54 (nI ((b - a) / 24))).2.1 4 8 = nI (b - a) := h4
  unfold g_Mo_readSymbols
  rw [show inb 8 10 = true from by decide, gd_t, show (decide (¬ (24 : Nat) = 0)) = true from by decide, gd_t, gd_t, gd_t, e8, h4, ed, h4', er]
  by_cases c1 : (b - a) % 24 = 0
  · rw [if_pos (by rw [c1]; rfl)]
    by_cases c2 : (b - a) / 24 ≤ 60
    · rw [if_neg (show ¬ 60 < nI ((b - a) / 24) from Int32.not_lt.mpr (nI_le (b := 60) c2 (by decide)))]
      have := ms_loop (σ := am_fi σ 0 54 (nI ((b - a) / 24))) (t := (b - a) / 24) (b := b) (a := a) h3 (by omega) hb h39 h49 hab9 hb9 fi_at ((b - a) / 24) 0 (by omega) 4000 (by omega)
      show g_Mo_readSymbols_44 4000 1 0 _ = _
      have e0 : (0 : Int32) = nI 0 := rfl
      rw [e0, this]
      have eb : (am_fi σ 0 54 (nI ((b - a) / 24))).2.1 2 = σ.2.1 2 := rfl
      rw [eb]
      cases hz : symOK (σ.2.1 2) a a9 b9 ((b - a) / 24) 0 with
      | true => rw [if_pos rfl, if_pos ⟨c1, c2, rfl⟩]
      | false => rw [if_neg (by decide), if_neg (fun z => by cases z.2.2)]; rfl
    · rw [if_pos (show 60 < nI ((b - a) / 24) from nI_lt (a := 60) (by omega) (by omega)), if_neg (fun z => c2 z.2.1)]
      exact ms_0
  · rw [if_neg (fun z => c1 (by
      have := congrArg Int32.toInt z
      rw [nI_toInt (by omega)] at this
      have e0 : (0 : Int32).toInt = 0 := by decide
      rw [e0] at this
      omega)), if_neg (fun z => c1 z.1)]
    exact ms_0
