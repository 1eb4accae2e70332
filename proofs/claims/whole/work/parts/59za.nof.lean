/-! names of files, both sides -/
theorem nof_2 {σ τ : am_S} {N U u : Nat} {fs A Z bnd wb : Nat → Nat} {v : Int64} (h : OPN σ τ N U fs A Z bnd wb) (hu : u < U) : ∃ y, g_Ro_nameOfFile (nI u) v σ = some (y, σ) ∧ PL (σ.2.1 1) y ∧ ∀ i, g_Mo_file_121 i (nI u) v τ = am_bd (g_Mo_character y i τ) (fun w t => some (w, t)) := by
  have hu4 := EV_u4 (OPN_ev h)
  obtain ⟨T, hT, h47, h25, hX⟩ := OPN_fu h u hu
  unfold g_Ro_nameOfFile g_Ro_nameOfFile_33 g_Ro_nameOfFile_34 g_Mo_file_121 g_Mo_file_163
  rw [inb_nI (n := u) (by omega) (by decide)]
  rw [gd_t, nI_clamp (n := u) (by omega), h47, h25, nI_l (by omega)]
  have none' : (v < 0 ∨ ¬ v < lN T) → ∀ i, (am_bd (g_Mo_in v 0 (lN T - 1) τ) fun v11 σ11 => if v11 = 0 then some (-1, σ11) else am_gd (inb ((30 * nI u) + v.toInt32) 120) <| am_bd (g_Mo_character (σ11.2.1 26 ((30 * nI u) + v.toInt32).toNatClampNeg) i σ11) fun v24 σ24 => some (v24, σ24)) = am_bd (g_Mo_character (-1) i τ) (fun w t => some (w, t)) := by
    intro hv i
    obtain ⟨w, t, e1, rfl, e2⟩ := mi_1 (σ := τ) (x := v) (a := 0) (b := lN T - 1)
    rw [e1, bd_t]
    have : w = 0 := by
      rcases e2 with ⟨_, q1, q2⟩ | ⟨q, _⟩
      · exfalso
        rcases hv with q | q
        · exact q1 q
        · rw [Int64.lt_iff_toInt_lt, lN_toInt (by omega)] at q
          rw [Int64.lt_iff_toInt_lt] at q2
          have e : (lN T - 1).toInt = (T : Int) - 1 := by
            rw [Int64.toInt_sub, lN_toInt (by omega), show (1 : Int64).toInt = 1 from by decide]
            simp only [Int.bmod]
            omega
          rw [e] at q2
          omega
      · exact q
    rw [if_pos this]
    rfl
  by_cases c1 : v < 0
  · rw [if_pos ((cmp_lt _ _).mpr c1)]
    exact ⟨-1, rfl, Or.inl rfl, none' (Or.inl c1)⟩
  · rw [if_neg (fun z => c1 ((cmp_lt _ _).mp z))]
    by_cases c2 : v < lN T
    · rw [if_pos ((cmp_lt _ _).mpr c2)]
      obtain ⟨m, hm, rfl⟩ : ∃ m, m < T ∧ v = lN m := by
        obtain ⟨m, hm, rfl⟩ := in_pos (x := v) (d := T) (by omega) (fun z => z.elim c1 (fun q => by
          rw [Int64.lt_iff_toInt_lt] at q c2
          omega))
        exact ⟨m, (lN_lt (by omega) (by omega)).mp c2, rfl⟩
      obtain ⟨x1, x2⟩ := hX m hm
      refine ⟨σ.2.1 48 (30 * u + m), ?_, x2, fun i => ?_⟩
      · rw [lN_i, show nI u * 30 = nI (30 * u) from (pk_mul u 30).trans (by rw [Nat.mul_comm]), nI_add, inb_nI (by omega) (by decide), gd_t, nI_clamp (by omega)]
      · obtain ⟨w, t, e1, e3, e2⟩ := mi_1 (σ := τ) (x := lN m) (a := 0) (b := lN T - 1)
        rw [e1, bd_t, e3]
        have : w = 1 := by
          rcases e2 with ⟨q, _⟩ | ⟨_, q⟩
          · exact q
          · exfalso
            rcases q with q | q
            · exact c1 q
            · rw [Int64.lt_iff_toInt_lt, lN_toInt (by omega)] at q
              have e : (lN T - 1).toInt = (T : Int) - 1 := by
                rw [Int64.toInt_sub, lN_toInt (by omega), show (1 : Int64).toInt = 1 from by decide]
                simp only [Int.bmod]
                omega
              rw [e] at q
              omega
        rw [if_neg (by rw [this]; decide), lN_i, show (30 : Int32) * nI u = nI (30 * u) from pk_mul 30 u, nI_add, inb_nI (by omega) (by decide), gd_t, nI_clamp (by omega), x1]
        rfl
    · rw [if_neg (fun z => c2 ((cmp_lt _ _).mp z))]
      exact ⟨-1, rfl, Or.inl rfl, none' (Or.inr c2)⟩
