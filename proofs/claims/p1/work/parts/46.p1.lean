/-! the first call on fresh objects -/
theorem p1_n {n : Int32} (h : ¬ (n < 1 ∨ 8 < n)) : ∃ m : Nat, 1 ≤ m ∧ m ≤ 8 ∧ n = nI m := by
  have h1 : ¬ n < 1 := fun q => h (Or.inl q)
  have h2 : ¬ 8 < n := fun q => h (Or.inr q)
  rw [Int32.lt_iff_toInt_lt] at h1 h2
  have e1 : (1 : Int32).toInt = 1 := by decide
  have e8 : (8 : Int32).toInt = 8 := by decide
  rw [e1] at h1
  rw [e8] at h2
  refine ⟨n.toInt.toNat, by omega, by omega, Int32.toInt_inj.mp ?_⟩
  have key : ∀ k : Nat, k ≤ 8 → (nI k).toInt = (k : Int) := by
    intro k hk
    simp [nI, Int32.toInt_ofNat, Int.bmod]
    omega
  rw [key _ (by omega)]
  omega
theorem p1_ops {J' : am_S → am_S → Prop} (hJ : ∀ a b, J' a b) : lw_ops (fun σx σm => σx.1.1 = (fun _ _ => 0) ∧ σm.1.1 = (fun _ _ => 0)) J' := by
  intro σx σm ⟨hx, hm⟩
  have x10 : σx.1.1 0 10 = nI 0 := by rw [hx]; rfl
  have x11 : σx.1.1 0 11 = 0 := by rw [hx]
  have x12 : σx.1.1 0 12 = 0 := by rw [hx]
  have x58 : σx.1.1 58 11 = 0 := by rw [hx]
  have m3 : σm.1.1 0 3 = nI 0 := by rw [hm]; rfl
  have m4 : σm.1.1 0 4 = 0 := by rw [hm]
  have m5 : σm.1.1 0 5 = 0 := by rw [hm]
  have m56 : σm.1.1 0 56 = 0 := by rw [hm]
  have no : ∀ i : Int32, ¬ (0 ≤ i ∧ i < 0) := fun i h => absurd (Int32.lt_of_le_of_lt h.1 h.2) (by decide)
  refine ⟨fun n x => ?_, ?_, ?_, ?_, fun a => ?_, fun x => ?_, fun a b => ?_, fun a b => ?_, fun a => ?_, hJ _ _⟩
  · by_cases h : n < 1 ∨ 8 < n
    · refine ⟨_, _, f_load_no ?_, m_load_no ?_, fun r σ' h => ⟨0, h.1⟩, fun v σx' rm σm' h1 h2 => ⟨h2.1.trans h1.1.symm, hJ _ _⟩⟩
      · rcases h with h | h
        · exact Or.inl h
        · exact Or.inr (Or.inl h)
      · rcases h with h | h
        · exact Or.inl h
        · exact Or.inr (Or.inl h)
    · obtain ⟨k, k1, k8, rfl⟩ := p1_n h
      exact ⟨_, _, f_load x10 k1 k8 (by omega), m_load m3 k1 k8 (by omega), fun r σ' h => ⟨1, h.1⟩, fun v σx' rm σm' h1 h2 => ⟨h2.1.trans h1.1.symm, hJ _ _⟩⟩
  · exact ⟨_, _, f_clear, m_clear, fun r σ' h => h.1, fun σx' rm σm' h1 h2 => ⟨h2.1, hJ _ _⟩⟩
  · exact ⟨fun _ _ => False, _, _, f_open_no (by rw [x10]; decide), m_open_no (by rw [m3]; decide), fun r σ' h => h.elim, fun r σ' h => ⟨0, h.1⟩, fun v σx' rm σm' h1 h2 => h1.elim, fun σx' rm σm' h1 h2 => ⟨by rw [h2.2]; rfl, hJ _ _⟩⟩
  · exact ⟨_, _, f_fault, m_fault, fun r σ' h => ⟨_, h.1⟩, fun v σx' rm σm' h1 h2 => ⟨by rw [h1.1, h2.1, x12, m4], hJ _ _⟩⟩
  · exact ⟨_, _, f_count, m_count, fun r σ' h => ⟨_, h.1⟩, fun v σx' rm σm' h1 h2 => ⟨by rw [h1.1, h2.1, cntC, cntM, if_pos x11, if_pos m5], hJ _ _⟩⟩
  · exact ⟨fun _ _ => False, _, _, f_find_no x11, m_find_no m5, fun r σ' h => h.elim, fun r σ' h => ⟨0, h.1⟩, fun v σx' rm σm' h1 h2 => h1.elim, fun σx' rm σm' h1 h2 => ⟨by rw [h2.2]; rfl, hJ _ _⟩⟩
  · exact ⟨_, _, f_name_no (by rw [x58]; exact no a), m_name_no (by rw [m56]; exact no a), fun r σ' h => ⟨_, h.1⟩, fun v σx' rm σm' h1 h2 => ⟨h2.1.trans h1.1.symm, hJ _ _⟩⟩
  · exact ⟨_, _, f_file_no (by rw [x58]; exact no a), m_file_no (by rw [m56]; exact no a), fun r σ' h => ⟨_, h.1⟩, fun v σx' rm σm' h1 h2 => ⟨h2.1.trans h1.1.symm, hJ _ _⟩⟩
  · exact ⟨_, _, f_line_no (by rw [x58]; exact no a), m_line_no (by rw [m56]; exact no a), fun r σ' h => ⟨_, h.1⟩, fun v σx' rm σm' h1 h2 => ⟨h2.1.trans h1.1.symm, hJ _ _⟩⟩
def p1_J (k : Nat) (σx σm : am_S) : Prop := k = 0 → σx.1.1 = (fun _ _ => 0) ∧ σm.1.1 = (fun _ _ => 0)
theorem p1_use {L : Nat} (hL : L ≤ 4) (k : Nat) (hk : 4 * k + 4 ≤ L) : lw_ops (p1_J k) (p1_J (k + 1)) := by
  obtain rfl : k = 0 := by omega
  intro σx σm h
  exact p1_ops (fun _ _ q => by cases q) σx σm (h rfl)
