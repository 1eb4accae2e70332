/-! what is left: a statement about functions -/
def pu_b (x : Option (Int32 × am_S)) (m : Option (Int32 × am_S)) (J' : am_S → am_S → Prop) : Prop := ∃ (v : Int32) (σx' σm' : am_S), x = some (v, σx') ∧ m = some (v, σm') ∧ J' σx' σm'
def pu_t (x : Option (Option Int32 × am_S)) (m : Option (Int32 × am_S)) (J' : am_S → am_S → Prop) : Prop := ∃ (r : Option Int32) (v : Int32) (σx' σm' : am_S), x = some (r, σx') ∧ m = some (v, σm') ∧ (r = some v ∧ σm'.1.1 0 1 = 0 ∨ r = none ∧ σm'.1.1 0 1 = 1) ∧ J' σx' σm'
def pu_ops (J J' : am_S → am_S → Prop) : Prop := ∀ σx σm, J σx σm → (∀ n x, pu_b (g_F_load n x σx) (g_Mo_load n x σm) J') ∧ (∃ σx' σm', g_F_clear σx = some ((), σx') ∧ g_Mo_clear σm = some ((), σm') ∧ J' σx' σm') ∧ pu_t (g_F_open σx) (g_Mo_open σm) J' ∧ pu_b (g_F_fault σx) (g_Mo_fault σm) J' ∧ (∀ a, pu_b (g_F_count a σx) (g_Mo_count a σm) J') ∧ (∀ x, pu_t (g_F_find x σx) (g_Mo_find x σm) J') ∧
  (∀ a b, pu_b (g_F_name a b σx) (g_Mo_name a b σm) J') ∧ (∀ a b, pu_b (g_F_file a b σx) (g_Mo_file a b σm) J') ∧ (∀ a, pu_b (g_F_line a σx) (g_Mo_line a σm) J') ∧ J' σx σm
theorem pu_of_b {Mx Mm : am_Me} {as : List Value} {σx σm : am_S} {J' : am_S → am_S → Prop} {x m : Option (Int32 × am_S)} (h : pu_b x m J') (hx : ∀ {r : Int32} {σ' : am_S}, x = some (r, σ') → am_Mt S_c Mx (.ref 0 :: as) σx (fun q τ => q = some (.int r) ∧ τ = σ')) (hm : ∀ {r : Int32} {σ' : am_S}, m = some (r, σ') → am_Mt S_m Mm (.ref 0 :: as) σm (fun q τ => q = some (.int r) ∧ τ = σ')) : lw_b Mx Mm as σx σm J' := by
  obtain ⟨v, σx', σm', e1, e2, hJ⟩ := h
  refine ⟨_, _, hx e1, hm e2, fun r σ' h => ⟨v, h.1⟩, fun w τx rm τm h1 h2 => ?_⟩
  obtain ⟨a1, a2⟩ := h1
  obtain ⟨b1, b2⟩ := h2
  rw [a2, b2]
  exact ⟨b1.trans a1.symm, hJ⟩
theorem pu_of_t {Mx Mm : am_Me} {as : List Value} {X : String} {σx σm : am_S} {J' : am_S → am_S → Prop} {x : Option (Option Int32 × am_S)} {m : Option (Int32 × am_S)} (h : pu_t x m J') (hx : ∀ {r : Option Int32} {σ' : am_S}, x = some (r, σ') → am_MtT S_c Mx (.ref 0 :: as) σx (fun q τ => ∃ w : Int32, r = some w ∧ q = some (.int w) ∧ τ = σ') (fun τ => r = none ∧ τ = σ') X) (hm : ∀ {r : Int32} {σ' : am_S}, m = some (r, σ') → am_Mt S_m Mm (.ref 0 :: as) σm (fun q τ => q = some (.int r) ∧ τ = σ')) : lw_t Mx Mm as X σx σm J' := by
  obtain ⟨r, v, σx', σm', e1, e2, hr, hJ⟩ := h
  refine ⟨_, _, _, hx e1, hm e2, fun q τ h => ?_, fun q τ h => ⟨v, h.1⟩, fun w τx rm τm h1 h2 => ?_, fun τx rm τm h1 h2 => ?_⟩
  · obtain ⟨w, -, h2, -⟩ := h
    exact ⟨w, h2⟩
  · obtain ⟨w', a1, a2, a3⟩ := h1
    obtain ⟨b1, b2⟩ := h2
    rw [a3, b2]
    rcases hr with ⟨c1, c2⟩ | ⟨c1, -⟩
    · rw [c1] at a1
      cases a1
      exact ⟨b1.trans a2.symm, c2, hJ⟩
    · rw [c1] at a1
      cases a1
  · obtain ⟨a1, a3⟩ := h1
    obtain ⟨b1, b2⟩ := h2
    rw [a3, b2]
    rcases hr with ⟨c1, -⟩ | ⟨-, c2⟩
    · rw [c1] at a1
      cases a1
    · exact ⟨c2, hJ⟩
theorem pu_law {J J' : am_S → am_S → Prop} (h : pu_ops J J') : lw_ops J J' := by
  intro σx σm hJ
  obtain ⟨h0, h1, h2, h3, h4, h5, h6, h7, h8, h9⟩ := h σx σm hJ
  refine ⟨fun n x => pu_of_b (h0 n x) t_F_load t_Mo_load, ?_, pu_of_t h2 t_F_open t_Mo_open, pu_of_b h3 t_F_fault t_Mo_fault, fun a => pu_of_b (h4 a) t_F_count t_Mo_count, fun x => pu_of_t (h5 x) t_F_find t_Mo_find, fun a b => pu_of_b (h6 a b) t_F_name t_Mo_name, fun a b => pu_of_b (h7 a b) t_F_file t_Mo_file, fun a => pu_of_b (h8 a) t_F_line t_Mo_line, h9⟩
  obtain ⟨σx', σm', e1, e2, hJ'⟩ := h1
  refine ⟨_, _, t_F_clear e1, t_Mo_clear e2, fun r τ h => h.1, fun τx rm τm a b => ?_⟩
  rw [a.2, b.2]
  exact ⟨b.1, hJ'⟩
