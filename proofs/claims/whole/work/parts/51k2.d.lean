def g_Mo_isRight_287 (go : Int32 → Int32 → Int32 → am_S → Option (Int32 × am_S)) (x1 : Int32) (x3 : Int32) (y0 : Int32) (σ : am_S) : Option (Int32 × am_S) :=
  go x1 y0 (x3 + 1) σ
set_option maxHeartbeats 4000000 in
theorem t_Mo_isRight_287 {x1 : Int32} {x3 : Int32} {y0 : Int32} {σ σ' : am_S} {r : Int32} {go : Int32 → Int32 → Int32 → am_S → Option (Int32 × am_S)} (hgo : ∀ {x1 : Int32} {x2 : Int32} {x3 : Int32} {σ σ' : am_S} {r : Int32}, go x1 x2 x3 σ = some (r, σ') → am_A S_m M_Mo_isRight (241, [some (.ref 0), some (.int x1), some (.int x2), some (.int x3)], [], σ) (am_r S_m (fun q τ => q = some (.int r) ∧ τ = σ'))) (h : g_Mo_isRight_287 go x1 x3 y0 σ = some (r, σ')) : am_A S_m M_Mo_isRight (287, [some (.ref 0), some (.int x1), none, some (.int x3)], [.int y0], σ) (am_r S_m (fun q τ => q = some (.int r) ∧ τ = σ')) := by
  unfold g_Mo_isRight_287 at h
  refine a_istore_n i_Mo_isRight_287 rfl ?_
  refine a_iinc i_Mo_isRight_288 rfl rfl ?_
  refine a_goto i_Mo_isRight_291 ?_
  exact hgo h
def g_Mo_isRight_282 (go : Int32 → Int32 → Int32 → am_S → Option (Int32 × am_S)) (x1 : Int32) (x3 : Int32) (σ : am_S) : Option (Int32 × am_S) :=
  g_Mo_isRight_287 go x1 x3 (1) σ
set_option maxHeartbeats 4000000 in
theorem t_Mo_isRight_282 {x1 : Int32} {x3 : Int32} {σ σ' : am_S} {r : Int32} {go : Int32 → Int32 → Int32 → am_S → Option (Int32 × am_S)} (hgo : ∀ {x1 : Int32} {x2 : Int32} {x3 : Int32} {σ σ' : am_S} {r : Int32}, go x1 x2 x3 σ = some (r, σ') → am_A S_m M_Mo_isRight (241, [some (.ref 0), some (.int x1), some (.int x2), some (.int x3)], [], σ) (am_r S_m (fun q τ => q = some (.int r) ∧ τ = σ'))) (h : g_Mo_isRight_282 go x1 x3 σ = some (r, σ')) : am_A S_m M_Mo_isRight (282, [some (.ref 0), some (.int x1), none, some (.int x3)], [], σ) (am_r S_m (fun q τ => q = some (.int r) ∧ τ = σ')) := by
  unfold g_Mo_isRight_282 at h
  refine a_iconst i_Mo_isRight_282 ?_
  refine a_goto i_Mo_isRight_283 ?_
  exact t_Mo_isRight_287 hgo h
def g_Mo_isRight_286 (go : Int32 → Int32 → Int32 → am_S → Option (Int32 × am_S)) (x1 : Int32) (x3 : Int32) (σ : am_S) : Option (Int32 × am_S) :=
  g_Mo_isRight_287 go x1 x3 (0) σ
set_option maxHeartbeats 4000000 in
theorem t_Mo_isRight_286 {x1 : Int32} {x3 : Int32} {σ σ' : am_S} {r : Int32} {go : Int32 → Int32 → Int32 → am_S → Option (Int32 × am_S)} (hgo : ∀ {x1 : Int32} {x2 : Int32} {x3 : Int32} {σ σ' : am_S} {r : Int32}, go x1 x2 x3 σ = some (r, σ') → am_A S_m M_Mo_isRight (241, [some (.ref 0), some (.int x1), some (.int x2), some (.int x3)], [], σ) (am_r S_m (fun q τ => q = some (.int r) ∧ τ = σ'))) (h : g_Mo_isRight_286 go x1 x3 σ = some (r, σ')) : am_A S_m M_Mo_isRight (286, [some (.ref 0), some (.int x1), none, some (.int x3)], [], σ) (am_r S_m (fun q τ => q = some (.int r) ∧ τ = σ')) := by
  unfold g_Mo_isRight_286 at h
  refine a_iconst i_Mo_isRight_286 ?_
  exact t_Mo_isRight_287 hgo h
def g_Mo_isRight_294 (x2 : Int32) (σ : am_S) : Option (Int32 × am_S) :=
  am_gd (z01 x2) <|
  some (x2, σ)
set_option maxHeartbeats 4000000 in
theorem t_Mo_isRight_294 {x2 : Int32} {σ σ' : am_S} {r : Int32} (h : g_Mo_isRight_294 x2 σ = some (r, σ')) : am_A S_m M_Mo_isRight (294, [none, none, some (.int x2), none], [], σ) (am_r S_m (fun q τ => q = some (.int r) ∧ τ = σ')) := by
  unfold g_Mo_isRight_294 at h
  refine a_iload_n i_Mo_isRight_294 rfl ?_
  obtain ⟨c2, h⟩ := gd_some h
  exact am_ret_z ok_Mo_isRight rfl rfl (z01_or c2) (am_lf_i h)
def g_Mo_isRight_241 : Nat → Int32 → Int32 → Int32 → am_S → Option (Int32 × am_S)
  | 0, _, _, _, _ => none
  | n + 1, x1, x2, x3, σ =>
  if x3 < 11 then
    am_gd (inb x1 200) <|
    if (σ.2.1 17 x1.toNatClampNeg) = 17 then
      if x2 = 0 then
        g_Mo_isRight_286 (g_Mo_isRight_241 n) x1 x3 σ
      else
        am_bd (g_Mo_has x1 x3 σ) fun v15 σ15 =>
        if v15 = 0 then
          g_Mo_isRight_282 (g_Mo_isRight_241 n) x1 x3 σ15
        else
          am_bd (g_Mo_formAt x1 x3 σ15) fun v20 σ20 =>
          if v20 = 23 then
            g_Mo_isRight_282 (g_Mo_isRight_241 n) x1 x3 σ20
          else
            g_Mo_isRight_286 (g_Mo_isRight_241 n) x1 x3 σ20
    else
      g_Mo_isRight_294 x2 σ
  else
    g_Mo_isRight_294 x2 σ
set_option maxHeartbeats 4000000 in
theorem t_Mo_isRight_241 : ∀ (n : Nat) {x1 : Int32} {x2 : Int32} {x3 : Int32} {σ σ' : am_S} {r : Int32} (h : g_Mo_isRight_241 n x1 x2 x3 σ = some (r, σ')), am_A S_m M_Mo_isRight (241, [some (.ref 0), some (.int x1), some (.int x2), some (.int x3)], [], σ) (am_r S_m (fun q τ => q = some (.int r) ∧ τ = σ')) := by
  intro n
  induction n with
  | zero =>
    intro x1 x2 x3 σ σ' r h
    cases h
  | succ n ih =>
  intro x1 x2 x3 σ σ' r h
  unfold g_Mo_isRight_241 at h
  refine a_iload_n i_Mo_isRight_241 rfl ?_
  refine a_bipush i_Mo_isRight_242 ?_
  by_cases c3 : x3 < 11
  · rw [if_pos c3] at h
    refine a_icf i_Mo_isRight_244 (Int32.not_le.mpr c3) ?_
    refine a_aload_n i_Mo_isRight_247 rfl ?_
    refine a_get (v := .ref 17) i_Mo_isRight_248 rfl rfl ?_
    refine a_iload_n i_Mo_isRight_251 rfl ?_
    obtain ⟨c7, h⟩ := gd_some h
    refine a_ial (n := 200) i_Mo_isRight_252 (by decide) rfl rfl (inb_in c7) ?_
    refine a_bipush i_Mo_isRight_253 ?_
    by_cases c9 : (σ.2.1 17 x1.toNatClampNeg) = 17
    · rw [if_pos c9] at h
      refine a_icf i_Mo_isRight_255 c9 ?_
      refine a_iload_n i_Mo_isRight_258 rfl ?_
      by_cases c11 : x2 = 0
      · rw [if_pos c11] at h
        refine a_ift i_Mo_isRight_259 c11 ?_
        exact am_wk (t_Mo_isRight_286 (fun h => ih h) h) ⟨Or.inr rfl, Or.inr rfl, Or.inl rfl, Or.inr rfl, trivial⟩
      · rw [if_neg c11] at h
        refine a_iff i_Mo_isRight_259 c11 ?_
        refine a_aload_n i_Mo_isRight_262 rfl ?_
        refine a_iload_n i_Mo_isRight_263 rfl ?_
        refine a_iload_n i_Mo_isRight_264 rfl ?_
        obtain ⟨v15, σ15, e15, h⟩ := am_bd_some h
        refine am_cvd (rest := []) [.int x1, .int x3] c_Mo_isRight_265 ⟨by decide, _, rfl⟩ rfl (Nat.le_of_ble_eq_true rfl) (t_Mo_has e15) ?_
        by_cases c16 : v15 = 0
        · rw [if_pos c16] at h
          refine a_ift i_Mo_isRight_268 c16 ?_
          exact am_wk (t_Mo_isRight_282 (fun h => ih h) h) ⟨Or.inr rfl, Or.inr rfl, Or.inl rfl, Or.inr rfl, trivial⟩
        · rw [if_neg c16] at h
          refine a_iff i_Mo_isRight_268 c16 ?_
          refine a_aload_n i_Mo_isRight_271 rfl ?_
          refine a_iload_n i_Mo_isRight_272 rfl ?_
          refine a_iload_n i_Mo_isRight_273 rfl ?_
          obtain ⟨v20, σ20, e20, h⟩ := am_bd_some h
          refine am_cvd (rest := []) [.int x1, .int x3] c_Mo_isRight_274 ⟨by decide, _, rfl⟩ rfl (Nat.le_of_ble_eq_true rfl) (t_Mo_formAt e20) ?_
          refine a_bipush i_Mo_isRight_277 ?_
          by_cases c22 : v20 = 23
          · rw [if_pos c22] at h
            refine a_icf i_Mo_isRight_279 c22 ?_
            exact am_wk (t_Mo_isRight_282 (fun h => ih h) h) ⟨Or.inr rfl, Or.inr rfl, Or.inl rfl, Or.inr rfl, trivial⟩
          · rw [if_neg c22] at h
            refine a_ict i_Mo_isRight_279 c22 ?_
            exact am_wk (t_Mo_isRight_286 (fun h => ih h) h) ⟨Or.inr rfl, Or.inr rfl, Or.inl rfl, Or.inr rfl, trivial⟩
    · rw [if_neg c9] at h
      refine a_ict i_Mo_isRight_255 c9 ?_
      exact am_wk (t_Mo_isRight_294 h) ⟨Or.inl rfl, Or.inl rfl, Or.inr rfl, Or.inl rfl, trivial⟩
  · rw [if_neg c3] at h
    refine a_ict i_Mo_isRight_244 (Int32.not_lt.mp c3) ?_
    exact am_wk (t_Mo_isRight_294 h) ⟨Or.inl rfl, Or.inl rfl, Or.inr rfl, Or.inl rfl, trivial⟩
def g_Mo_isRight_237 (x1 : Int32) (y0 : Int32) (σ : am_S) : Option (Int32 × am_S) :=
  g_Mo_isRight_241 4000 x1 y0 (7) σ
set_option maxHeartbeats 4000000 in
theorem t_Mo_isRight_237 {x1 : Int32} {y0 : Int32} {σ σ' : am_S} {r : Int32} (h : g_Mo_isRight_237 x1 y0 σ = some (r, σ')) : am_A S_m M_Mo_isRight (237, [some (.ref 0), some (.int x1), none, none], [.int y0], σ) (am_r S_m (fun q τ => q = some (.int r) ∧ τ = σ')) := by
  unfold g_Mo_isRight_237 at h
  refine a_istore_n i_Mo_isRight_237 rfl ?_
  refine a_bipush i_Mo_isRight_238 ?_
  refine a_istore_n i_Mo_isRight_240 rfl ?_
  exact t_Mo_isRight_241 4000 h
def g_Mo_isRight_232 (x1 : Int32) (σ : am_S) : Option (Int32 × am_S) :=
  g_Mo_isRight_237 x1 (1) σ
set_option maxHeartbeats 4000000 in
theorem t_Mo_isRight_232 {x1 : Int32} {σ σ' : am_S} {r : Int32} (h : g_Mo_isRight_232 x1 σ = some (r, σ')) : am_A S_m M_Mo_isRight (232, [some (.ref 0), some (.int x1), none, none], [], σ) (am_r S_m (fun q τ => q = some (.int r) ∧ τ = σ')) := by
  unfold g_Mo_isRight_232 at h
  refine a_iconst i_Mo_isRight_232 ?_
  refine a_goto i_Mo_isRight_233 ?_
  exact t_Mo_isRight_237 h
def g_Mo_isRight_236 (x1 : Int32) (σ : am_S) : Option (Int32 × am_S) :=
  g_Mo_isRight_237 x1 (0) σ
set_option maxHeartbeats 4000000 in
theorem t_Mo_isRight_236 {x1 : Int32} {σ σ' : am_S} {r : Int32} (h : g_Mo_isRight_236 x1 σ = some (r, σ')) : am_A S_m M_Mo_isRight (236, [some (.ref 0), some (.int x1), none, none], [], σ) (am_r S_m (fun q τ => q = some (.int r) ∧ τ = σ')) := by
  unfold g_Mo_isRight_236 at h
  refine a_iconst i_Mo_isRight_236 ?_
  exact t_Mo_isRight_237 h
def g_Mo_isRight_209 (x1 : Int32) (σ : am_S) : Option (Int32 × am_S) :=
  am_bd (g_Mo_has x1 (6) σ) fun v4 σ4 =>
  if v4 = 0 then
    g_Mo_isRight_232 x1 σ4
  else
    am_bd (g_Mo_formAt x1 (6) σ4) fun v9 σ9 =>
    am_bd (g_Mo_isConstant v9 σ9) fun v10 σ10 =>
    if v10 = 0 then
      g_Mo_isRight_236 x1 σ10
    else
      g_Mo_isRight_232 x1 σ10
set_option maxHeartbeats 4000000 in
theorem t_Mo_isRight_209 {x1 : Int32} {σ σ' : am_S} {r : Int32} (h : g_Mo_isRight_209 x1 σ = some (r, σ')) : am_A S_m M_Mo_isRight (209, [some (.ref 0), some (.int x1), none, none], [], σ) (am_r S_m (fun q τ => q = some (.int r) ∧ τ = σ')) := by
  unfold g_Mo_isRight_209 at h
  refine a_aload_n i_Mo_isRight_209 rfl ?_
  refine a_iload_n i_Mo_isRight_210 rfl ?_
  refine a_bipush i_Mo_isRight_211 ?_
  obtain ⟨v4, σ4, e4, h⟩ := am_bd_some h
  refine am_cvd (rest := []) [.int x1, .int 6] c_Mo_isRight_213 ⟨by decide, _, rfl⟩ rfl (Nat.le_of_ble_eq_true rfl) (t_Mo_has e4) ?_
  by_cases c5 : v4 = 0
  · rw [if_pos c5] at h
    refine a_ift i_Mo_isRight_216 c5 ?_
    exact t_Mo_isRight_232 h
  · rw [if_neg c5] at h
    refine a_iff i_Mo_isRight_216 c5 ?_
    refine a_aload_n i_Mo_isRight_219 rfl ?_
    refine a_iload_n i_Mo_isRight_220 rfl ?_
    refine a_bipush i_Mo_isRight_221 ?_
    obtain ⟨v9, σ9, e9, h⟩ := am_bd_some h
    refine am_cvd (rest := []) [.int x1, .int 6] c_Mo_isRight_223 ⟨by decide, _, rfl⟩ rfl (Nat.le_of_ble_eq_true rfl) (t_Mo_formAt e9) ?_
    obtain ⟨v10, σ10, e10, h⟩ := am_bd_some h
    refine am_csd (rest := []) [.int v9] c_Mo_isRight_226 rfl (Nat.le_of_ble_eq_true rfl) (t_Mo_isConstant e10) ?_
    by_cases c11 : v10 = 0
    · rw [if_pos c11] at h
      refine a_ift i_Mo_isRight_229 c11 ?_
      exact t_Mo_isRight_236 h
    · rw [if_neg c11] at h
      refine a_iff i_Mo_isRight_229 c11 ?_
      exact t_Mo_isRight_232 h
def g_Mo_isRight_183 (x1 : Int32) (y0 : Int32) (σ : am_S) : Option (Int32 × am_S) :=
  if y0 = 0 then
    g_Mo_isRight_236 x1 σ
  else
    am_bd (g_Mo_has x1 (5) σ) fun v7 σ7 =>
    if v7 = 0 then
      g_Mo_isRight_209 x1 σ7
    else
      am_bd (g_Mo_formAt x1 (5) σ7) fun v12 σ12 =>
      am_bd (g_Mo_isConstant v12 σ12) fun v13 σ13 =>
      if v13 = 0 then
        g_Mo_isRight_236 x1 σ13
      else
        g_Mo_isRight_209 x1 σ13
set_option maxHeartbeats 4000000 in
theorem t_Mo_isRight_183 {x1 : Int32} {y0 : Int32} {σ σ' : am_S} {r : Int32} (h : g_Mo_isRight_183 x1 y0 σ = some (r, σ')) : am_A S_m M_Mo_isRight (183, [some (.ref 0), some (.int x1), none, none], [.int y0], σ) (am_r S_m (fun q τ => q = some (.int r) ∧ τ = σ')) := by
  unfold g_Mo_isRight_183 at h
  refine a_istore_n i_Mo_isRight_183 rfl ?_
  refine a_iload_n i_Mo_isRight_184 rfl ?_
  by_cases c3 : y0 = 0
  · rw [if_pos c3] at h
    refine a_ift i_Mo_isRight_185 c3 ?_
    exact am_wk (t_Mo_isRight_236 h) ⟨Or.inr rfl, Or.inr rfl, Or.inl rfl, Or.inl rfl, trivial⟩
  · rw [if_neg c3] at h
    refine a_iff i_Mo_isRight_185 c3 ?_
    refine a_aload_n i_Mo_isRight_188 rfl ?_
    refine a_iload_n i_Mo_isRight_189 rfl ?_
    refine a_iconst i_Mo_isRight_190 ?_
    obtain ⟨v7, σ7, e7, h⟩ := am_bd_some h
    refine am_cvd (rest := []) [.int x1, .int 5] c_Mo_isRight_191 ⟨by decide, _, rfl⟩ rfl (Nat.le_of_ble_eq_true rfl) (t_Mo_has e7) ?_
    by_cases c8 : v7 = 0
    · rw [if_pos c8] at h
      refine a_ift i_Mo_isRight_194 c8 ?_
      exact am_wk (t_Mo_isRight_209 h) ⟨Or.inr rfl, Or.inr rfl, Or.inl rfl, Or.inl rfl, trivial⟩
    · rw [if_neg c8] at h
      refine a_iff i_Mo_isRight_194 c8 ?_
      refine a_aload_n i_Mo_isRight_197 rfl ?_
      refine a_iload_n i_Mo_isRight_198 rfl ?_
      refine a_iconst i_Mo_isRight_199 ?_
      obtain ⟨v12, σ12, e12, h⟩ := am_bd_some h
      refine am_cvd (rest := []) [.int x1, .int 5] c_Mo_isRight_200 ⟨by decide, _, rfl⟩ rfl (Nat.le_of_ble_eq_true rfl) (t_Mo_formAt e12) ?_
      obtain ⟨v13, σ13, e13, h⟩ := am_bd_some h
      refine am_csd (rest := []) [.int v12] c_Mo_isRight_203 rfl (Nat.le_of_ble_eq_true rfl) (t_Mo_isConstant e13) ?_
      by_cases c14 : v13 = 0
      · rw [if_pos c14] at h
        refine a_ift i_Mo_isRight_206 c14 ?_
        exact am_wk (t_Mo_isRight_236 h) ⟨Or.inr rfl, Or.inr rfl, Or.inl rfl, Or.inl rfl, trivial⟩
      · rw [if_neg c14] at h
        refine a_iff i_Mo_isRight_206 c14 ?_
        exact am_wk (t_Mo_isRight_209 h) ⟨Or.inr rfl, Or.inr rfl, Or.inl rfl, Or.inl rfl, trivial⟩
def g_Mo_isRight_178 (x1 : Int32) (σ : am_S) : Option (Int32 × am_S) :=
  g_Mo_isRight_183 x1 (1) σ
set_option maxHeartbeats 4000000 in
theorem t_Mo_isRight_178 {x1 : Int32} {σ σ' : am_S} {r : Int32} (h : g_Mo_isRight_178 x1 σ = some (r, σ')) : am_A S_m M_Mo_isRight (178, [some (.ref 0), some (.int x1), none, none], [], σ) (am_r S_m (fun q τ => q = some (.int r) ∧ τ = σ')) := by
  unfold g_Mo_isRight_178 at h
  refine a_iconst i_Mo_isRight_178 ?_
  refine a_goto i_Mo_isRight_179 ?_
  exact t_Mo_isRight_183 h
def g_Mo_isRight_182 (x1 : Int32) (σ : am_S) : Option (Int32 × am_S) :=
  g_Mo_isRight_183 x1 (0) σ
set_option maxHeartbeats 4000000 in
theorem t_Mo_isRight_182 {x1 : Int32} {σ σ' : am_S} {r : Int32} (h : g_Mo_isRight_182 x1 σ = some (r, σ')) : am_A S_m M_Mo_isRight (182, [some (.ref 0), some (.int x1), none, none], [], σ) (am_r S_m (fun q τ => q = some (.int r) ∧ τ = σ')) := by
  unfold g_Mo_isRight_182 at h
  refine a_iconst i_Mo_isRight_182 ?_
  exact t_Mo_isRight_183 h
def g_Mo_isRight_156 (x1 : Int32) (y0 : Int32) (σ : am_S) : Option (Int32 × am_S) :=
  if y0 = 0 then
    g_Mo_isRight_182 x1 σ
  else
    am_bd (g_Mo_has x1 (4) σ) fun v7 σ7 =>
    if v7 = 0 then
      g_Mo_isRight_178 x1 σ7
    else
      am_bd (g_Mo_isOrigin x1 σ7) fun v11 σ11 =>
      if v11 = 0 then
        g_Mo_isRight_182 x1 σ11
      else
        g_Mo_isRight_178 x1 σ11
set_option maxHeartbeats 4000000 in
theorem t_Mo_isRight_156 {x1 : Int32} {y0 : Int32} {σ σ' : am_S} {r : Int32} (h : g_Mo_isRight_156 x1 y0 σ = some (r, σ')) : am_A S_m M_Mo_isRight (156, [some (.ref 0), some (.int x1), none, none], [.int y0], σ) (am_r S_m (fun q τ => q = some (.int r) ∧ τ = σ')) := by
  unfold g_Mo_isRight_156 at h
  refine a_istore_n i_Mo_isRight_156 rfl ?_
  refine a_iload_n i_Mo_isRight_157 rfl ?_
  by_cases c3 : y0 = 0
  · rw [if_pos c3] at h
    refine a_ift i_Mo_isRight_158 c3 ?_
    exact am_wk (t_Mo_isRight_182 h) ⟨Or.inr rfl, Or.inr rfl, Or.inl rfl, Or.inl rfl, trivial⟩
  · rw [if_neg c3] at h
    refine a_iff i_Mo_isRight_158 c3 ?_
    refine a_aload_n i_Mo_isRight_161 rfl ?_
    refine a_iload_n i_Mo_isRight_162 rfl ?_
    refine a_iconst i_Mo_isRight_163 ?_
    obtain ⟨v7, σ7, e7, h⟩ := am_bd_some h
    refine am_cvd (rest := []) [.int x1, .int 4] c_Mo_isRight_164 ⟨by decide, _, rfl⟩ rfl (Nat.le_of_ble_eq_true rfl) (t_Mo_has e7) ?_
    by_cases c8 : v7 = 0
    · rw [if_pos c8] at h
      refine a_ift i_Mo_isRight_167 c8 ?_
      exact am_wk (t_Mo_isRight_178 h) ⟨Or.inr rfl, Or.inr rfl, Or.inl rfl, Or.inl rfl, trivial⟩
    · rw [if_neg c8] at h
      refine a_iff i_Mo_isRight_167 c8 ?_
      refine a_aload_n i_Mo_isRight_170 rfl ?_
      refine a_iload_n i_Mo_isRight_171 rfl ?_
      obtain ⟨v11, σ11, e11, h⟩ := am_bd_some h
      refine am_cvd (rest := []) [.int x1] c_Mo_isRight_172 ⟨by decide, _, rfl⟩ rfl (Nat.le_of_ble_eq_true rfl) (t_Mo_isOrigin e11) ?_
      by_cases c12 : v11 = 0
      · rw [if_pos c12] at h
        refine a_ift i_Mo_isRight_175 c12 ?_
        exact am_wk (t_Mo_isRight_182 h) ⟨Or.inr rfl, Or.inr rfl, Or.inl rfl, Or.inl rfl, trivial⟩
      · rw [if_neg c12] at h
        refine a_iff i_Mo_isRight_175 c12 ?_
        exact am_wk (t_Mo_isRight_178 h) ⟨Or.inr rfl, Or.inr rfl, Or.inl rfl, Or.inl rfl, trivial⟩
def g_Mo_isRight_151 (x1 : Int32) (σ : am_S) : Option (Int32 × am_S) :=
  g_Mo_isRight_156 x1 (1) σ
set_option maxHeartbeats 4000000 in
theorem t_Mo_isRight_151 {x1 : Int32} {σ σ' : am_S} {r : Int32} (h : g_Mo_isRight_151 x1 σ = some (r, σ')) : am_A S_m M_Mo_isRight (151, [some (.ref 0), some (.int x1), none, none], [], σ) (am_r S_m (fun q τ => q = some (.int r) ∧ τ = σ')) := by
  unfold g_Mo_isRight_151 at h
  refine a_iconst i_Mo_isRight_151 ?_
  refine a_goto i_Mo_isRight_152 ?_
  exact t_Mo_isRight_156 h
def g_Mo_isRight_155 (x1 : Int32) (σ : am_S) : Option (Int32 × am_S) :=
  g_Mo_isRight_156 x1 (0) σ
set_option maxHeartbeats 4000000 in
theorem t_Mo_isRight_155 {x1 : Int32} {σ σ' : am_S} {r : Int32} (h : g_Mo_isRight_155 x1 σ = some (r, σ')) : am_A S_m M_Mo_isRight (155, [some (.ref 0), some (.int x1), none, none], [], σ) (am_r S_m (fun q τ => q = some (.int r) ∧ τ = σ')) := by
  unfold g_Mo_isRight_155 at h
  refine a_iconst i_Mo_isRight_155 ?_
  exact t_Mo_isRight_156 h
def g_Mo_isRight_115 (x1 : Int32) (y0 : Int32) (σ : am_S) : Option (Int32 × am_S) :=
  if y0 = 0 then
    g_Mo_isRight_155 x1 σ
  else
    am_bd (g_Mo_has x1 (3) σ) fun v7 σ7 =>
    if v7 = 0 then
      g_Mo_isRight_151 x1 σ7
    else
      am_bd (g_Mo_formAt x1 (3) σ7) fun v12 σ12 =>
      if v12 = 23 then
        g_Mo_isRight_151 x1 σ12
      else
        am_bd (g_Mo_formAt x1 (3) σ12) fun v18 σ18 =>
        if v18 = 35 then
          g_Mo_isRight_151 x1 σ18
        else
          g_Mo_isRight_155 x1 σ18
set_option maxHeartbeats 4000000 in
theorem t_Mo_isRight_115 {x1 : Int32} {y0 : Int32} {σ σ' : am_S} {r : Int32} (h : g_Mo_isRight_115 x1 y0 σ = some (r, σ')) : am_A S_m M_Mo_isRight (115, [some (.ref 0), some (.int x1), none, none], [.int y0], σ) (am_r S_m (fun q τ => q = some (.int r) ∧ τ = σ')) := by
  unfold g_Mo_isRight_115 at h
  refine a_istore_n i_Mo_isRight_115 rfl ?_
  refine a_iload_n i_Mo_isRight_116 rfl ?_
  by_cases c3 : y0 = 0
  · rw [if_pos c3] at h
    refine a_ift i_Mo_isRight_117 c3 ?_
    exact am_wk (t_Mo_isRight_155 h) ⟨Or.inr rfl, Or.inr rfl, Or.inl rfl, Or.inl rfl, trivial⟩
  · rw [if_neg c3] at h
    refine a_iff i_Mo_isRight_117 c3 ?_
    refine a_aload_n i_Mo_isRight_120 rfl ?_
    refine a_iload_n i_Mo_isRight_121 rfl ?_
    refine a_iconst i_Mo_isRight_122 ?_
    obtain ⟨v7, σ7, e7, h⟩ := am_bd_some h
    refine am_cvd (rest := []) [.int x1, .int 3] c_Mo_isRight_123 ⟨by decide, _, rfl⟩ rfl (Nat.le_of_ble_eq_true rfl) (t_Mo_has e7) ?_
    by_cases c8 : v7 = 0
    · rw [if_pos c8] at h
      refine a_ift i_Mo_isRight_126 c8 ?_
      exact am_wk (t_Mo_isRight_151 h) ⟨Or.inr rfl, Or.inr rfl, Or.inl rfl, Or.inl rfl, trivial⟩
    · rw [if_neg c8] at h
      refine a_iff i_Mo_isRight_126 c8 ?_
      refine a_aload_n i_Mo_isRight_129 rfl ?_
      refine a_iload_n i_Mo_isRight_130 rfl ?_
      refine a_iconst i_Mo_isRight_131 ?_
      obtain ⟨v12, σ12, e12, h⟩ := am_bd_some h
      refine am_cvd (rest := []) [.int x1, .int 3] c_Mo_isRight_132 ⟨by decide, _, rfl⟩ rfl (Nat.le_of_ble_eq_true rfl) (t_Mo_formAt e12) ?_
      refine a_bipush i_Mo_isRight_135 ?_
      by_cases c14 : v12 = 23
      · rw [if_pos c14] at h
        refine a_ict i_Mo_isRight_137 c14 ?_
        exact am_wk (t_Mo_isRight_151 h) ⟨Or.inr rfl, Or.inr rfl, Or.inl rfl, Or.inl rfl, trivial⟩
      · rw [if_neg c14] at h
        refine a_icf i_Mo_isRight_137 c14 ?_
        refine a_aload_n i_Mo_isRight_140 rfl ?_
        refine a_iload_n i_Mo_isRight_141 rfl ?_
        refine a_iconst i_Mo_isRight_142 ?_
        obtain ⟨v18, σ18, e18, h⟩ := am_bd_some h
        refine am_cvd (rest := []) [.int x1, .int 3] c_Mo_isRight_143 ⟨by decide, _, rfl⟩ rfl (Nat.le_of_ble_eq_true rfl) (t_Mo_formAt e18) ?_
        refine a_bipush i_Mo_isRight_146 ?_
        by_cases c20 : v18 = 35
        · rw [if_pos c20] at h
          refine a_icf i_Mo_isRight_148 c20 ?_
          exact am_wk (t_Mo_isRight_151 h) ⟨Or.inr rfl, Or.inr rfl, Or.inl rfl, Or.inl rfl, trivial⟩
        · rw [if_neg c20] at h
          refine a_ict i_Mo_isRight_148 c20 ?_
          exact am_wk (t_Mo_isRight_155 h) ⟨Or.inr rfl, Or.inr rfl, Or.inl rfl, Or.inl rfl, trivial⟩
def g_Mo_isRight_110 (x1 : Int32) (σ : am_S) : Option (Int32 × am_S) :=
  g_Mo_isRight_115 x1 (1) σ
set_option maxHeartbeats 4000000 in
theorem t_Mo_isRight_110 {x1 : Int32} {σ σ' : am_S} {r : Int32} (h : g_Mo_isRight_110 x1 σ = some (r, σ')) : am_A S_m M_Mo_isRight (110, [some (.ref 0), some (.int x1), none, none], [], σ) (am_r S_m (fun q τ => q = some (.int r) ∧ τ = σ')) := by
  unfold g_Mo_isRight_110 at h
  refine a_iconst i_Mo_isRight_110 ?_
  refine a_goto i_Mo_isRight_111 ?_
  exact t_Mo_isRight_115 h
def g_Mo_isRight_114 (x1 : Int32) (σ : am_S) : Option (Int32 × am_S) :=
  g_Mo_isRight_115 x1 (0) σ
set_option maxHeartbeats 4000000 in
theorem t_Mo_isRight_114 {x1 : Int32} {σ σ' : am_S} {r : Int32} (h : g_Mo_isRight_114 x1 σ = some (r, σ')) : am_A S_m M_Mo_isRight (114, [some (.ref 0), some (.int x1), none, none], [], σ) (am_r S_m (fun q τ => q = some (.int r) ∧ τ = σ')) := by
  unfold g_Mo_isRight_114 at h
  refine a_iconst i_Mo_isRight_114 ?_
  exact t_Mo_isRight_115 h
def g_Mo_isRight_63 (x1 : Int32) (y0 : Int32) (σ : am_S) : Option (Int32 × am_S) :=
  if y0 = 0 then
    g_Mo_isRight_114 x1 σ
  else
    am_bd (g_Mo_has x1 (2) σ) fun v7 σ7 =>
    if v7 = 0 then
      g_Mo_isRight_110 x1 σ7
    else
      am_bd (g_Mo_formAt x1 (2) σ7) fun v12 σ12 =>
      am_bd (g_Mo_isConstant v12 σ12) fun v13 σ13 =>
      if v13 = 0 then
        am_bd (g_Mo_formAt x1 (2) σ13) fun v18 σ18 =>
        am_bd (g_Mo_isAddress v18 σ18) fun v19 σ19 =>
        if v19 = 0 then
          g_Mo_isRight_114 x1 σ19
        else
          am_bd (g_Mo_address x1 (2) σ19) fun v24 σ24 =>
          if v24 = 0 then
            g_Mo_isRight_114 x1 σ24
          else
            g_Mo_isRight_110 x1 σ24
      else
        g_Mo_isRight_110 x1 σ13
set_option maxHeartbeats 4000000 in
theorem t_Mo_isRight_63 {x1 : Int32} {y0 : Int32} {σ σ' : am_S} {r : Int32} (h : g_Mo_isRight_63 x1 y0 σ = some (r, σ')) : am_A S_m M_Mo_isRight (63, [some (.ref 0), some (.int x1), none, none], [.int y0], σ) (am_r S_m (fun q τ => q = some (.int r) ∧ τ = σ')) := by
  unfold g_Mo_isRight_63 at h
  refine a_istore_n i_Mo_isRight_63 rfl ?_
  refine a_iload_n i_Mo_isRight_64 rfl ?_
  by_cases c3 : y0 = 0
  · rw [if_pos c3] at h
    refine a_ift i_Mo_isRight_65 c3 ?_
    exact am_wk (t_Mo_isRight_114 h) ⟨Or.inr rfl, Or.inr rfl, Or.inl rfl, Or.inl rfl, trivial⟩
  · rw [if_neg c3] at h
    refine a_iff i_Mo_isRight_65 c3 ?_
    refine a_aload_n i_Mo_isRight_68 rfl ?_
    refine a_iload_n i_Mo_isRight_69 rfl ?_
    refine a_iconst i_Mo_isRight_70 ?_
    obtain ⟨v7, σ7, e7, h⟩ := am_bd_some h
    refine am_cvd (rest := []) [.int x1, .int 2] c_Mo_isRight_71 ⟨by decide, _, rfl⟩ rfl (Nat.le_of_ble_eq_true rfl) (t_Mo_has e7) ?_
    by_cases c8 : v7 = 0
    · rw [if_pos c8] at h
      refine a_ift i_Mo_isRight_74 c8 ?_
      exact am_wk (t_Mo_isRight_110 h) ⟨Or.inr rfl, Or.inr rfl, Or.inl rfl, Or.inl rfl, trivial⟩
    · rw [if_neg c8] at h
      refine a_iff i_Mo_isRight_74 c8 ?_
      refine a_aload_n i_Mo_isRight_77 rfl ?_
      refine a_iload_n i_Mo_isRight_78 rfl ?_
      refine a_iconst i_Mo_isRight_79 ?_
      obtain ⟨v12, σ12, e12, h⟩ := am_bd_some h
      refine am_cvd (rest := []) [.int x1, .int 2] c_Mo_isRight_80 ⟨by decide, _, rfl⟩ rfl (Nat.le_of_ble_eq_true rfl) (t_Mo_formAt e12) ?_
      obtain ⟨v13, σ13, e13, h⟩ := am_bd_some h
      refine am_csd (rest := []) [.int v12] c_Mo_isRight_83 rfl (Nat.le_of_ble_eq_true rfl) (t_Mo_isConstant e13) ?_
      by_cases c14 : v13 = 0
      · rw [if_pos c14] at h
        refine a_iff i_Mo_isRight_86 c14 ?_
        refine a_aload_n i_Mo_isRight_89 rfl ?_
        refine a_iload_n i_Mo_isRight_90 rfl ?_
        refine a_iconst i_Mo_isRight_91 ?_
        obtain ⟨v18, σ18, e18, h⟩ := am_bd_some h
        refine am_cvd (rest := []) [.int x1, .int 2] c_Mo_isRight_92 ⟨by decide, _, rfl⟩ rfl (Nat.le_of_ble_eq_true rfl) (t_Mo_formAt e18) ?_
        obtain ⟨v19, σ19, e19, h⟩ := am_bd_some h
        refine am_csd (rest := []) [.int v18] c_Mo_isRight_95 rfl (Nat.le_of_ble_eq_true rfl) (t_Mo_isAddress e19) ?_
        by_cases c20 : v19 = 0
        · rw [if_pos c20] at h
          refine a_ift i_Mo_isRight_98 c20 ?_
          exact am_wk (t_Mo_isRight_114 h) ⟨Or.inr rfl, Or.inr rfl, Or.inl rfl, Or.inl rfl, trivial⟩
        · rw [if_neg c20] at h
          refine a_iff i_Mo_isRight_98 c20 ?_
          refine a_aload_n i_Mo_isRight_101 rfl ?_
          refine a_iload_n i_Mo_isRight_102 rfl ?_
          refine a_iconst i_Mo_isRight_103 ?_
          obtain ⟨v24, σ24, e24, h⟩ := am_bd_some h
          refine am_cvd (rest := []) [.int x1, .int 2] c_Mo_isRight_104 ⟨by decide, _, rfl⟩ rfl (Nat.le_of_ble_eq_true rfl) (t_Mo_address e24) ?_
          by_cases c25 : v24 = 0
          · rw [if_pos c25] at h
            refine a_ift i_Mo_isRight_107 c25 ?_
            exact am_wk (t_Mo_isRight_114 h) ⟨Or.inr rfl, Or.inr rfl, Or.inl rfl, Or.inl rfl, trivial⟩
          · rw [if_neg c25] at h
            refine a_iff i_Mo_isRight_107 c25 ?_
            exact am_wk (t_Mo_isRight_110 h) ⟨Or.inr rfl, Or.inr rfl, Or.inl rfl, Or.inl rfl, trivial⟩
      · rw [if_neg c14] at h
        refine a_ift i_Mo_isRight_86 c14 ?_
        exact am_wk (t_Mo_isRight_110 h) ⟨Or.inr rfl, Or.inr rfl, Or.inl rfl, Or.inl rfl, trivial⟩
def g_Mo_isRight_58 (x1 : Int32) (σ : am_S) : Option (Int32 × am_S) :=
  g_Mo_isRight_63 x1 (1) σ
set_option maxHeartbeats 4000000 in
theorem t_Mo_isRight_58 {x1 : Int32} {σ σ' : am_S} {r : Int32} (h : g_Mo_isRight_58 x1 σ = some (r, σ')) : am_A S_m M_Mo_isRight (58, [some (.ref 0), some (.int x1), none, none], [], σ) (am_r S_m (fun q τ => q = some (.int r) ∧ τ = σ')) := by
  unfold g_Mo_isRight_58 at h
  refine a_iconst i_Mo_isRight_58 ?_
  refine a_goto i_Mo_isRight_59 ?_
  exact t_Mo_isRight_63 h
def g_Mo_isRight_62 (x1 : Int32) (σ : am_S) : Option (Int32 × am_S) :=
  g_Mo_isRight_63 x1 (0) σ
set_option maxHeartbeats 4000000 in
theorem t_Mo_isRight_62 {x1 : Int32} {σ σ' : am_S} {r : Int32} (h : g_Mo_isRight_62 x1 σ = some (r, σ')) : am_A S_m M_Mo_isRight (62, [some (.ref 0), some (.int x1), none, none], [], σ) (am_r S_m (fun q τ => q = some (.int r) ∧ τ = σ')) := by
  unfold g_Mo_isRight_62 at h
  refine a_iconst i_Mo_isRight_62 ?_
  exact t_Mo_isRight_63 h
def g_Mo_isRight_23 (x1 : Int32) (y0 : Int32) (σ : am_S) : Option (Int32 × am_S) :=
  if y0 = 0 then
    g_Mo_isRight_62 x1 σ
  else
    am_bd (g_Mo_has x1 (1) σ) fun v7 σ7 =>
    if v7 = 0 then
      g_Mo_isRight_58 x1 σ7
    else
      am_bd (g_Mo_formAt x1 (1) σ7) fun v12 σ12 =>
      am_bd (g_Mo_isAddress v12 σ12) fun v13 σ13 =>
      if v13 = 0 then
        g_Mo_isRight_62 x1 σ13
      else
        am_bd (g_Mo_address x1 (1) σ13) fun v18 σ18 =>
        if v18 = 0 then
          g_Mo_isRight_62 x1 σ18
        else
          g_Mo_isRight_58 x1 σ18
set_option maxHeartbeats 4000000 in
theorem t_Mo_isRight_23 {x1 : Int32} {y0 : Int32} {σ σ' : am_S} {r : Int32} (h : g_Mo_isRight_23 x1 y0 σ = some (r, σ')) : am_A S_m M_Mo_isRight (23, [some (.ref 0), some (.int x1), none, none], [.int y0], σ) (am_r S_m (fun q τ => q = some (.int r) ∧ τ = σ')) := by
  unfold g_Mo_isRight_23 at h
  refine a_istore_n i_Mo_isRight_23 rfl ?_
  refine a_iload_n i_Mo_isRight_24 rfl ?_
  by_cases c3 : y0 = 0
  · rw [if_pos c3] at h
    refine a_ift i_Mo_isRight_25 c3 ?_
    exact am_wk (t_Mo_isRight_62 h) ⟨Or.inr rfl, Or.inr rfl, Or.inl rfl, Or.inl rfl, trivial⟩
  · rw [if_neg c3] at h
    refine a_iff i_Mo_isRight_25 c3 ?_
    refine a_aload_n i_Mo_isRight_28 rfl ?_
    refine a_iload_n i_Mo_isRight_29 rfl ?_
    refine a_iconst i_Mo_isRight_30 ?_
    obtain ⟨v7, σ7, e7, h⟩ := am_bd_some h
    refine am_cvd (rest := []) [.int x1, .int 1] c_Mo_isRight_31 ⟨by decide, _, rfl⟩ rfl (Nat.le_of_ble_eq_true rfl) (t_Mo_has e7) ?_
    by_cases c8 : v7 = 0
    · rw [if_pos c8] at h
      refine a_ift i_Mo_isRight_34 c8 ?_
      exact am_wk (t_Mo_isRight_58 h) ⟨Or.inr rfl, Or.inr rfl, Or.inl rfl, Or.inl rfl, trivial⟩
    · rw [if_neg c8] at h
      refine a_iff i_Mo_isRight_34 c8 ?_
      refine a_aload_n i_Mo_isRight_37 rfl ?_
      refine a_iload_n i_Mo_isRight_38 rfl ?_
      refine a_iconst i_Mo_isRight_39 ?_
      obtain ⟨v12, σ12, e12, h⟩ := am_bd_some h
      refine am_cvd (rest := []) [.int x1, .int 1] c_Mo_isRight_40 ⟨by decide, _, rfl⟩ rfl (Nat.le_of_ble_eq_true rfl) (t_Mo_formAt e12) ?_
      obtain ⟨v13, σ13, e13, h⟩ := am_bd_some h
      refine am_csd (rest := []) [.int v12] c_Mo_isRight_43 rfl (Nat.le_of_ble_eq_true rfl) (t_Mo_isAddress e13) ?_
      by_cases c14 : v13 = 0
      · rw [if_pos c14] at h
        refine a_ift i_Mo_isRight_46 c14 ?_
        exact am_wk (t_Mo_isRight_62 h) ⟨Or.inr rfl, Or.inr rfl, Or.inl rfl, Or.inl rfl, trivial⟩
      · rw [if_neg c14] at h
        refine a_iff i_Mo_isRight_46 c14 ?_
        refine a_aload_n i_Mo_isRight_49 rfl ?_
        refine a_iload_n i_Mo_isRight_50 rfl ?_
        refine a_iconst i_Mo_isRight_51 ?_
        obtain ⟨v18, σ18, e18, h⟩ := am_bd_some h
        refine am_cvd (rest := []) [.int x1, .int 1] c_Mo_isRight_52 ⟨by decide, _, rfl⟩ rfl (Nat.le_of_ble_eq_true rfl) (t_Mo_address e18) ?_
        by_cases c19 : v18 = 0
        · rw [if_pos c19] at h
          refine a_ift i_Mo_isRight_55 c19 ?_
          exact am_wk (t_Mo_isRight_62 h) ⟨Or.inr rfl, Or.inr rfl, Or.inl rfl, Or.inl rfl, trivial⟩
        · rw [if_neg c19] at h
          refine a_iff i_Mo_isRight_55 c19 ?_
          exact am_wk (t_Mo_isRight_58 h) ⟨Or.inr rfl, Or.inr rfl, Or.inl rfl, Or.inl rfl, trivial⟩
def g_Mo_isRight_18 (x1 : Int32) (σ : am_S) : Option (Int32 × am_S) :=
  g_Mo_isRight_23 x1 (1) σ
set_option maxHeartbeats 4000000 in
theorem t_Mo_isRight_18 {x1 : Int32} {σ σ' : am_S} {r : Int32} (h : g_Mo_isRight_18 x1 σ = some (r, σ')) : am_A S_m M_Mo_isRight (18, [some (.ref 0), some (.int x1), none, none], [], σ) (am_r S_m (fun q τ => q = some (.int r) ∧ τ = σ')) := by
  unfold g_Mo_isRight_18 at h
  refine a_iconst i_Mo_isRight_18 ?_
  refine a_goto i_Mo_isRight_19 ?_
  exact t_Mo_isRight_23 h
def g_Mo_isRight (x1 : Int32) (σ : am_S) : Option (Int32 × am_S) :=
  am_bd (g_Mo_has x1 (0) σ) fun v4 σ4 =>
  if v4 = 0 then
    g_Mo_isRight_18 x1 σ4
  else
    am_bd (g_Mo_nameAt x1 σ4) fun v8 σ8 =>
    if v8 = (-1) then
      g_Mo_isRight_23 x1 (0) σ8
    else
      g_Mo_isRight_18 x1 σ8
set_option maxHeartbeats 4000000 in
theorem t_Mo_isRight_0 {x1 : Int32} {σ σ' : am_S} {r : Int32} (h : g_Mo_isRight x1 σ = some (r, σ')) : am_A S_m M_Mo_isRight (0, [some (.ref 0), some (.int x1), none, none], [], σ) (am_r S_m (fun q τ => q = some (.int r) ∧ τ = σ')) := by
  unfold g_Mo_isRight at h
  refine a_aload_n i_Mo_isRight_0 rfl ?_
  refine a_iload_n i_Mo_isRight_1 rfl ?_
  refine a_iconst i_Mo_isRight_2 ?_
  obtain ⟨v4, σ4, e4, h⟩ := am_bd_some h
  refine am_cvd (rest := []) [.int x1, .int 0] c_Mo_isRight_3 ⟨by decide, _, rfl⟩ rfl (Nat.le_of_ble_eq_true rfl) (t_Mo_has e4) ?_
  by_cases c5 : v4 = 0
  · rw [if_pos c5] at h
    refine a_ift i_Mo_isRight_6 c5 ?_
    exact t_Mo_isRight_18 h
  · rw [if_neg c5] at h
    refine a_iff i_Mo_isRight_6 c5 ?_
    refine a_aload_n i_Mo_isRight_9 rfl ?_
    refine a_iload_n i_Mo_isRight_10 rfl ?_
    obtain ⟨v8, σ8, e8, h⟩ := am_bd_some h
    refine am_cvd (rest := []) [.int x1] c_Mo_isRight_11 ⟨by decide, _, rfl⟩ rfl (Nat.le_of_ble_eq_true rfl) (t_Mo_nameAt e8) ?_
    refine a_iconst i_Mo_isRight_14 ?_
    by_cases c10 : v8 = (-1)
    · rw [if_pos c10] at h
      refine a_ict i_Mo_isRight_15 c10 ?_
      refine a_iconst i_Mo_isRight_22 ?_
      exact t_Mo_isRight_23 h
    · rw [if_neg c10] at h
      refine a_icf i_Mo_isRight_15 c10 ?_
      exact t_Mo_isRight_18 h
theorem t_Mo_isRight {x1 : Int32} {σ σ' : am_S} {r : Int32} (h : g_Mo_isRight x1 σ = some (r, σ')) : am_Mt S_m M_Mo_isRight [.ref 0, .int x1] σ (fun q τ => q = some (.int r) ∧ τ = σ') :=
  am_M_of ok_Mo_isRight (Nat.le_of_ble_eq_true rfl) (t_Mo_isRight_0 h)
def g_Mo_range_17 (σ : am_S) : Option (Int32 × am_S) :=
  some (0, σ)
set_option maxHeartbeats 4000000 in
theorem t_Mo_range_17 {σ σ' : am_S} {r : Int32} (h : g_Mo_range_17 σ = some (r, σ')) : am_A S_m M_Mo_range (17, [none, none, none, none, none], [], σ) (am_r S_m (fun q τ => q = some (.int r) ∧ τ = σ')) := by
  unfold g_Mo_range_17 at h
  refine a_iconst i_Mo_range_17 ?_
  exact am_ret_z ok_Mo_range rfl rfl (Or.inl rfl) (am_lf_i h)
def g_Mo_range (x1 : Int64) (x3 : Int64) (σ : am_S) : Option (Int32 × am_S) :=
  if (σ.1.1 0 33) = 300 then
    g_Mo_range_17 σ
  else
    if (σ.1.1 0 8) = 0 then
      am_gd (inb (σ.1.1 0 33) 300) <|
      am_gd (inb (σ.1.1 0 33) 300) <|
      some (1, am_fi (am_al (am_al σ 23 (σ.1.1 0 33).toNatClampNeg x1) 24 (σ.1.1 0 33).toNatClampNeg x3) 0 33 ((σ.1.1 0 33) + 1))
    else
      g_Mo_range_17 σ
set_option maxHeartbeats 4000000 in
theorem t_Mo_range_0 {x1 : Int64} {x3 : Int64} {σ σ' : am_S} {r : Int32} (h : g_Mo_range x1 x3 σ = some (r, σ')) : am_A S_m M_Mo_range (0, [some (.ref 0), some (.long x1), none, some (.long x3), none], [], σ) (am_r S_m (fun q τ => q = some (.int r) ∧ τ = σ')) := by
  unfold g_Mo_range at h
  refine a_aload_n i_Mo_range_0 rfl ?_
  refine a_get (v := .int (σ.1.1 0 33)) i_Mo_range_1 rfl rfl ?_
  refine a_sipush i_Mo_range_4 ?_
  by_cases c4 : (σ.1.1 0 33) = 300
  · rw [if_pos c4] at h
    refine a_ict i_Mo_range_7 c4 ?_
    exact am_wk (t_Mo_range_17 h) ⟨Or.inl rfl, Or.inl rfl, Or.inl rfl, Or.inl rfl, Or.inl rfl, trivial⟩
  · rw [if_neg c4] at h
    refine a_icf i_Mo_range_7 c4 ?_
    refine a_aload_n i_Mo_range_10 rfl ?_
    refine a_get (v := .int (σ.1.1 0 8)) i_Mo_range_11 rfl rfl ?_
    by_cases c7 : (σ.1.1 0 8) = 0
    · rw [if_pos c7] at h
      refine a_ift i_Mo_range_14 c7 ?_
      refine a_aload_n i_Mo_range_19 rfl ?_
      refine a_get (v := .ref 23) i_Mo_range_20 rfl rfl ?_
      refine a_aload_n i_Mo_range_23 rfl ?_
      refine a_get (v := .int (σ.1.1 0 33)) i_Mo_range_24 rfl rfl ?_
      refine a_lload_n i_Mo_range_27 rfl ?_
      obtain ⟨c13, h⟩ := gd_some h
      refine a_las (n := 300) i_Mo_range_28 rfl rfl (inb_in c13) ?_
      refine a_aload_n i_Mo_range_29 rfl ?_
      refine a_get (v := .ref 24) i_Mo_range_30 rfl rfl ?_
      refine a_aload_n i_Mo_range_33 rfl ?_
      refine a_get (v := .int (σ.1.1 0 33)) i_Mo_range_34 rfl rfl ?_
      refine a_lload_n i_Mo_range_37 rfl ?_
      obtain ⟨c19, h⟩ := gd_some h
      refine a_las (n := 300) i_Mo_range_38 rfl rfl (inb_in c19) ?_
      refine a_aload_n i_Mo_range_39 rfl ?_
      refine a_dup_a i_Mo_range_40 ?_
      refine a_get (v := .int (σ.1.1 0 33)) i_Mo_range_41 rfl rfl ?_
      refine a_iconst i_Mo_range_44 ?_
      refine a_iadd i_Mo_range_45 ?_
      refine a_puti i_Mo_range_46 rfl trivial ?_
      refine a_iconst i_Mo_range_49 ?_
      exact am_ret_z ok_Mo_range rfl rfl (Or.inr rfl) (am_lf_i h)
    · rw [if_neg c7] at h
      refine a_iff i_Mo_range_14 c7 ?_
      exact am_wk (t_Mo_range_17 h) ⟨Or.inl rfl, Or.inl rfl, Or.inl rfl, Or.inl rfl, Or.inl rfl, trivial⟩
theorem t_Mo_range {x1 : Int64} {x3 : Int64} {σ σ' : am_S} {r : Int32} (h : g_Mo_range x1 x3 σ = some (r, σ')) : am_Mt S_m M_Mo_range [.ref 0, .long x1, .long x3] σ (fun q τ => q = some (.int r) ∧ τ = σ') :=
  am_M_of ok_Mo_range (Nat.le_of_ble_eq_true rfl) (t_Mo_range_0 h)
def g_Mo_rangeByIndex_20 (σ : am_S) : Option (Int32 × am_S) :=
  some (0, σ)
set_option maxHeartbeats 4000000 in
theorem t_Mo_rangeByIndex_20 {σ σ' : am_S} {r : Int32} (h : g_Mo_rangeByIndex_20 σ = some (r, σ')) : am_A S_m M_Mo_rangeByIndex (20, [none, none, none, none, none, none, none], [], σ) (am_r S_m (fun q τ => q = some (.int r) ∧ τ = σ')) := by
  unfold g_Mo_rangeByIndex_20 at h
  refine a_iconst i_Mo_rangeByIndex_20 ?_
  exact am_ret_z ok_Mo_rangeByIndex rfl rfl (Or.inl rfl) (am_lf_i h)
def g_Mo_rangeByIndex_83 (y0 : Int32) (σ : am_S) : Option (Int32 × am_S) :=
  am_gd (z01 y0) <|
  some (y0, σ)
set_option maxHeartbeats 4000000 in
theorem t_Mo_rangeByIndex_83 {y0 : Int32} {σ σ' : am_S} {r : Int32} (h : g_Mo_rangeByIndex_83 y0 σ = some (r, σ')) : am_A S_m M_Mo_rangeByIndex (83, [none, none, none, none, none, none, none], [.int y0], σ) (am_r S_m (fun q τ => q = some (.int r) ∧ τ = σ')) := by
  unfold g_Mo_rangeByIndex_83 at h
  obtain ⟨c1, h⟩ := gd_some h
  exact am_ret_z ok_Mo_rangeByIndex rfl rfl (z01_or c1) (am_lf_i h)
def g_Mo_rangeByIndex_82 (σ : am_S) : Option (Int32 × am_S) :=
  g_Mo_rangeByIndex_83 (0) σ
set_option maxHeartbeats 4000000 in
theorem t_Mo_rangeByIndex_82 {σ σ' : am_S} {r : Int32} (h : g_Mo_rangeByIndex_82 σ = some (r, σ')) : am_A S_m M_Mo_rangeByIndex (82, [none, none, none, none, none, none, none], [], σ) (am_r S_m (fun q τ => q = some (.int r) ∧ τ = σ')) := by
  unfold g_Mo_rangeByIndex_82 at h
  refine a_iconst i_Mo_rangeByIndex_82 ?_
  exact t_Mo_rangeByIndex_83 h
def g_Mo_rangeByIndex (x1 : Int32) (x2 : Int32) (σ : am_S) : Option (Int32 × am_S) :=
  am_bd (g_Mo_leb (0) σ) fun v5 σ5 =>
  am_bd (g_Mo_addressAt x1 v5 σ5) fun v6 σ6 =>
  if v6 = 0 then
    g_Mo_rangeByIndex_20 σ6
  else
    if (σ6.1.1 0 8) = 0 then
      am_bd (g_Mo_leb (0) σ6) fun v16 σ16 =>
      if x2 = 3 then
        am_bd (g_Mo_range (σ6.1.2 0 37) ((σ6.1.2 0 37) + v16) σ16) fun v26 σ26 =>
        am_gd (z01 v26) <|
        some (v26, σ26)
      else
        if (σ16.1.1 0 8) = 0 then
          am_bd (g_Mo_addressAt x1 v16 σ16) fun v27 σ27 =>
          if v27 = 0 then
            g_Mo_rangeByIndex_82 σ27
          else
            am_bd (g_Mo_range (σ6.1.2 0 37) (σ27.1.2 0 37) σ27) fun v33 σ33 =>
            if v33 = 0 then
              g_Mo_rangeByIndex_82 σ33
            else
              g_Mo_rangeByIndex_83 (1) σ33
        else
          g_Mo_rangeByIndex_82 σ16
    else
      g_Mo_rangeByIndex_20 σ6
set_option maxHeartbeats 4000000 in
theorem t_Mo_rangeByIndex_0 {x1 : Int32} {x2 : Int32} {σ σ' : am_S} {r : Int32} (h : g_Mo_rangeByIndex x1 x2 σ = some (r, σ')) : am_A S_m M_Mo_rangeByIndex (0, [some (.ref 0), some (.int x1), some (.int x2), none, none, none, none], [], σ) (am_r S_m (fun q τ => q = some (.int r) ∧ τ = σ')) := by
  unfold g_Mo_rangeByIndex at h
  refine a_aload_n i_Mo_rangeByIndex_0 rfl ?_
  refine a_iload_n i_Mo_rangeByIndex_1 rfl ?_
  refine a_aload_n i_Mo_rangeByIndex_2 rfl ?_
  refine a_iconst i_Mo_rangeByIndex_3 ?_
  obtain ⟨v5, σ5, e5, h⟩ := am_bd_some h
  refine am_cvd (rest := [.int x1, .ref 0]) [.int 0] c_Mo_rangeByIndex_4 ⟨by decide, _, rfl⟩ rfl (Nat.le_of_ble_eq_true rfl) (t_Mo_leb e5) ?_
  obtain ⟨v6, σ6, e6, h⟩ := am_bd_some h
  refine am_cvd (rest := []) [.int x1, .long v5] c_Mo_rangeByIndex_7 ⟨by decide, _, rfl⟩ rfl (Nat.le_of_ble_eq_true rfl) (t_Mo_addressAt e6) ?_
  by_cases c7 : v6 = 0
  · rw [if_pos c7] at h
    refine a_ift i_Mo_rangeByIndex_10 c7 ?_
    exact am_wk (t_Mo_rangeByIndex_20 h) ⟨Or.inl rfl, Or.inl rfl, Or.inl rfl, Or.inl rfl, Or.inl rfl, Or.inl rfl, Or.inl rfl, trivial⟩
  · rw [if_neg c7] at h
    refine a_iff i_Mo_rangeByIndex_10 c7 ?_
    refine a_aload_n i_Mo_rangeByIndex_13 rfl ?_
    refine a_get (v := .int (σ6.1.1 0 8)) i_Mo_rangeByIndex_14 rfl rfl ?_
    by_cases c10 : (σ6.1.1 0 8) = 0
    · rw [if_pos c10] at h
      refine a_ift i_Mo_rangeByIndex_17 c10 ?_
      refine a_aload_n i_Mo_rangeByIndex_22 rfl ?_
      refine a_get (v := .long (σ6.1.2 0 37)) i_Mo_rangeByIndex_23 rfl rfl ?_
      refine a_lstore_n i_Mo_rangeByIndex_26 rfl ?_
      refine a_aload_n i_Mo_rangeByIndex_27 rfl ?_
      refine a_iconst i_Mo_rangeByIndex_28 ?_
      obtain ⟨v16, σ16, e16, h⟩ := am_bd_some h
      refine am_cvd (rest := []) [.int 0] c_Mo_rangeByIndex_29 ⟨by decide, _, rfl⟩ rfl (Nat.le_of_ble_eq_true rfl) (t_Mo_leb e16) ?_
      refine a_lstore i_Mo_rangeByIndex_32 rfl ?_
      refine a_iload_n i_Mo_rangeByIndex_34 rfl ?_
      refine a_iconst i_Mo_rangeByIndex_35 ?_
      by_cases c20 : x2 = 3
      · rw [if_pos c20] at h
        refine a_icf i_Mo_rangeByIndex_36 c20 ?_
        refine a_aload_n i_Mo_rangeByIndex_39 rfl ?_
        refine a_lload_n i_Mo_rangeByIndex_40 rfl ?_
        refine a_lload_n i_Mo_rangeByIndex_41 rfl ?_
        refine a_lload i_Mo_rangeByIndex_42 rfl ?_
        refine a_ladd i_Mo_rangeByIndex_44 ?_
        obtain ⟨v26, σ26, e26, h⟩ := am_bd_some h
        refine am_cvd (rest := []) [.long (σ6.1.2 0 37), .long ((σ6.1.2 0 37) + v16)] c_Mo_rangeByIndex_45 ⟨by decide, _, rfl⟩ rfl (Nat.le_of_ble_eq_true rfl) (t_Mo_range e26) ?_
        obtain ⟨c27, h⟩ := gd_some h
        exact am_ret_z ok_Mo_rangeByIndex rfl rfl (z01_or c27) (am_lf_i h)
      · rw [if_neg c20] at h
        refine a_ict i_Mo_rangeByIndex_36 c20 ?_
        refine a_aload_n i_Mo_rangeByIndex_49 rfl ?_
        refine a_get (v := .int (σ16.1.1 0 8)) i_Mo_rangeByIndex_50 rfl rfl ?_
        by_cases c23 : (σ16.1.1 0 8) = 0
        · rw [if_pos c23] at h
          refine a_iff i_Mo_rangeByIndex_53 c23 ?_
          refine a_aload_n i_Mo_rangeByIndex_56 rfl ?_
          refine a_iload_n i_Mo_rangeByIndex_57 rfl ?_
          refine a_lload i_Mo_rangeByIndex_58 rfl ?_
          obtain ⟨v27, σ27, e27, h⟩ := am_bd_some h
          refine am_cvd (rest := []) [.int x1, .long v16] c_Mo_rangeByIndex_60 ⟨by decide, _, rfl⟩ rfl (Nat.le_of_ble_eq_true rfl) (t_Mo_addressAt e27) ?_
          by_cases c28 : v27 = 0
          · rw [if_pos c28] at h
            refine a_ift i_Mo_rangeByIndex_63 c28 ?_
            exact am_wk (t_Mo_rangeByIndex_82 h) ⟨Or.inl rfl, Or.inl rfl, Or.inl rfl, Or.inl rfl, Or.inl rfl, Or.inl rfl, Or.inl rfl, trivial⟩
          · rw [if_neg c28] at h
            refine a_iff i_Mo_rangeByIndex_63 c28 ?_
            refine a_aload_n i_Mo_rangeByIndex_66 rfl ?_
            refine a_lload_n i_Mo_rangeByIndex_67 rfl ?_
            refine a_aload_n i_Mo_rangeByIndex_68 rfl ?_
            refine a_get (v := .long (σ27.1.2 0 37)) i_Mo_rangeByIndex_69 rfl rfl ?_
            obtain ⟨v33, σ33, e33, h⟩ := am_bd_some h
            refine am_cvd (rest := []) [.long (σ6.1.2 0 37), .long (σ27.1.2 0 37)] c_Mo_rangeByIndex_72 ⟨by decide, _, rfl⟩ rfl (Nat.le_of_ble_eq_true rfl) (t_Mo_range e33) ?_
            by_cases c34 : v33 = 0
            · rw [if_pos c34] at h
              refine a_ift i_Mo_rangeByIndex_75 c34 ?_
              exact am_wk (t_Mo_rangeByIndex_82 h) ⟨Or.inl rfl, Or.inl rfl, Or.inl rfl, Or.inl rfl, Or.inl rfl, Or.inl rfl, Or.inl rfl, trivial⟩
            · rw [if_neg c34] at h
              refine a_iff i_Mo_rangeByIndex_75 c34 ?_
              refine a_iconst i_Mo_rangeByIndex_78 ?_
              refine a_goto i_Mo_rangeByIndex_79 ?_
              exact am_wk (t_Mo_rangeByIndex_83 h) ⟨Or.inl rfl, Or.inl rfl, Or.inl rfl, Or.inl rfl, Or.inl rfl, Or.inl rfl, Or.inl rfl, trivial⟩
        · rw [if_neg c23] at h
          refine a_ift i_Mo_rangeByIndex_53 c23 ?_
          exact am_wk (t_Mo_rangeByIndex_82 h) ⟨Or.inl rfl, Or.inl rfl, Or.inl rfl, Or.inl rfl, Or.inl rfl, Or.inl rfl, Or.inl rfl, trivial⟩
    · rw [if_neg c10] at h
      refine a_iff i_Mo_rangeByIndex_17 c10 ?_
      exact am_wk (t_Mo_rangeByIndex_20 h) ⟨Or.inl rfl, Or.inl rfl, Or.inl rfl, Or.inl rfl, Or.inl rfl, Or.inl rfl, Or.inl rfl, trivial⟩
theorem t_Mo_rangeByIndex {x1 : Int32} {x2 : Int32} {σ σ' : am_S} {r : Int32} (h : g_Mo_rangeByIndex x1 x2 σ = some (r, σ')) : am_Mt S_m M_Mo_rangeByIndex [.ref 0, .int x1, .int x2] σ (fun q τ => q = some (.int r) ∧ τ = σ') :=
  am_M_of ok_Mo_rangeByIndex (Nat.le_of_ble_eq_true rfl) (t_Mo_rangeByIndex_0 h)
def g_Mo_readList_77 (σ : am_S) : Option (Int32 × am_S) :=
  some (0, σ)
set_option maxHeartbeats 4000000 in
theorem t_Mo_readList_77 {σ σ' : am_S} {r : Int32} (h : g_Mo_readList_77 σ = some (r, σ')) : am_A S_m M_Mo_readList (77, [none, none, none, none, none, none, none, none, none], [], σ) (am_r S_m (fun q τ => q = some (.int r) ∧ τ = σ')) := by
  unfold g_Mo_readList_77 at h
  refine a_iconst i_Mo_readList_77 ?_
  exact am_ret_z ok_Mo_readList rfl rfl (Or.inl rfl) (am_lf_i h)
def g_Mo_readList_256 (go : Int32 → Int64 → Int32 → Int32 → am_S → Option (Int32 × am_S)) (x1 : Int32) (x3 : Int64) (x6 : Int32) (y0 : Int32) (σ : am_S) : Option (Int32 × am_S) :=
  go x1 x3 y0 x6 σ
set_option maxHeartbeats 4000000 in
theorem t_Mo_readList_256 {x1 : Int32} {x3 : Int64} {x6 : Int32} {y0 : Int32} {σ σ' : am_S} {r : Int32} {go : Int32 → Int64 → Int32 → Int32 → am_S → Option (Int32 × am_S)} (hgo : ∀ {x1 : Int32} {x3 : Int64} {x5 : Int32} {x6 : Int32} {σ σ' : am_S} {r : Int32}, go x1 x3 x5 x6 σ = some (r, σ') → am_A S_m M_Mo_readList (45, [some (.ref 0), some (.int x1), none, some (.long x3), none, some (.int x5), some (.int x6), none, none], [], σ) (am_r S_m (fun q τ => q = some (.int r) ∧ τ = σ'))) (h : g_Mo_readList_256 go x1 x3 x6 y0 σ = some (r, σ')) : am_A S_m M_Mo_readList (256, [some (.ref 0), some (.int x1), none, some (.long x3), none, none, some (.int x6), none, none], [.int y0], σ) (am_r S_m (fun q τ => q = some (.int r) ∧ τ = σ')) := by
  unfold g_Mo_readList_256 at h
  refine a_istore i_Mo_readList_256 rfl ?_
  refine a_goto i_Mo_readList_258 ?_
  exact hgo h
def g_Mo_readList_255 (go : Int32 → Int64 → Int32 → Int32 → am_S → Option (Int32 × am_S)) (x1 : Int32) (x3 : Int64) (x6 : Int32) (σ : am_S) : Option (Int32 × am_S) :=
  g_Mo_readList_256 go x1 x3 x6 (0) σ
set_option maxHeartbeats 4000000 in
theorem t_Mo_readList_255 {x1 : Int32} {x3 : Int64} {x6 : Int32} {σ σ' : am_S} {r : Int32} {go : Int32 → Int64 → Int32 → Int32 → am_S → Option (Int32 × am_S)} (hgo : ∀ {x1 : Int32} {x3 : Int64} {x5 : Int32} {x6 : Int32} {σ σ' : am_S} {r : Int32}, go x1 x3 x5 x6 σ = some (r, σ') → am_A S_m M_Mo_readList (45, [some (.ref 0), some (.int x1), none, some (.long x3), none, some (.int x5), some (.int x6), none, none], [], σ) (am_r S_m (fun q τ => q = some (.int r) ∧ τ = σ'))) (h : g_Mo_readList_255 go x1 x3 x6 σ = some (r, σ')) : am_A S_m M_Mo_readList (255, [some (.ref 0), some (.int x1), none, some (.long x3), none, none, some (.int x6), none, none], [], σ) (am_r S_m (fun q τ => q = some (.int r) ∧ τ = σ')) := by
  unfold g_Mo_readList_255 at h
  refine a_iconst i_Mo_readList_255 ?_
  exact t_Mo_readList_256 hgo h
def g_Mo_readList_239 (go : Int32 → Int64 → Int32 → Int32 → am_S → Option (Int32 × am_S)) (x1 : Int32) (x3 : Int64) (x5 : Int32) (x6 : Int32) (σ : am_S) : Option (Int32 × am_S) :=
  if x5 = 0 then
    g_Mo_readList_255 go x1 x3 x6 σ
  else
    if (σ.1.1 0 8) = 0 then
      g_Mo_readList_256 go x1 x3 x6 (1) σ
    else
      g_Mo_readList_255 go x1 x3 x6 σ
set_option maxHeartbeats 4000000 in
theorem t_Mo_readList_239 {x1 : Int32} {x3 : Int64} {x5 : Int32} {x6 : Int32} {σ σ' : am_S} {r : Int32} {go : Int32 → Int64 → Int32 → Int32 → am_S → Option (Int32 × am_S)} (hgo : ∀ {x1 : Int32} {x3 : Int64} {x5 : Int32} {x6 : Int32} {σ σ' : am_S} {r : Int32}, go x1 x3 x5 x6 σ = some (r, σ') → am_A S_m M_Mo_readList (45, [some (.ref 0), some (.int x1), none, some (.long x3), none, some (.int x5), some (.int x6), none, none], [], σ) (am_r S_m (fun q τ => q = some (.int r) ∧ τ = σ'))) (h : g_Mo_readList_239 go x1 x3 x5 x6 σ = some (r, σ')) : am_A S_m M_Mo_readList (239, [some (.ref 0), some (.int x1), none, some (.long x3), none, some (.int x5), some (.int x6), none, none], [], σ) (am_r S_m (fun q τ => q = some (.int r) ∧ τ = σ')) := by
  unfold g_Mo_readList_239 at h
  refine a_iload i_Mo_readList_239 rfl ?_
  by_cases c2 : x5 = 0
  · rw [if_pos c2] at h
    refine a_ift i_Mo_readList_241 c2 ?_
    exact am_wk (t_Mo_readList_255 hgo h) ⟨Or.inr rfl, Or.inr rfl, Or.inl rfl, Or.inr rfl, Or.inl rfl, Or.inl rfl, Or.inr rfl, Or.inl rfl, Or.inl rfl, trivial⟩
  · rw [if_neg c2] at h
    refine a_iff i_Mo_readList_241 c2 ?_
    refine a_aload_n i_Mo_readList_244 rfl ?_
    refine a_get (v := .int (σ.1.1 0 8)) i_Mo_readList_245 rfl rfl ?_
    by_cases c5 : (σ.1.1 0 8) = 0
    · rw [if_pos c5] at h
      refine a_iff i_Mo_readList_248 c5 ?_
      refine a_iconst i_Mo_readList_251 ?_
      refine a_goto i_Mo_readList_252 ?_
      exact am_wk (t_Mo_readList_256 hgo h) ⟨Or.inr rfl, Or.inr rfl, Or.inl rfl, Or.inr rfl, Or.inl rfl, Or.inl rfl, Or.inr rfl, Or.inl rfl, Or.inl rfl, trivial⟩
    · rw [if_neg c5] at h
      refine a_ift i_Mo_readList_248 c5 ?_
      exact am_wk (t_Mo_readList_255 hgo h) ⟨Or.inr rfl, Or.inr rfl, Or.inl rfl, Or.inr rfl, Or.inl rfl, Or.inl rfl, Or.inr rfl, Or.inl rfl, Or.inl rfl, trivial⟩
def g_Mo_readList_110 (go : Int32 → Int64 → Int32 → Int32 → am_S → Option (Int32 × am_S)) (x1 : Int32) (x6 : Int32) (y0 : Int32) (σ : am_S) : Option (Int32 × am_S) :=
  g_Mo_readList_239 go x1 (σ.1.2 0 37) y0 x6 σ
set_option maxHeartbeats 4000000 in
theorem t_Mo_readList_110 {x1 : Int32} {x6 : Int32} {y0 : Int32} {σ σ' : am_S} {r : Int32} {go : Int32 → Int64 → Int32 → Int32 → am_S → Option (Int32 × am_S)} (hgo : ∀ {x1 : Int32} {x3 : Int64} {x5 : Int32} {x6 : Int32} {σ σ' : am_S} {r : Int32}, go x1 x3 x5 x6 σ = some (r, σ') → am_A S_m M_Mo_readList (45, [some (.ref 0), some (.int x1), none, some (.long x3), none, some (.int x5), some (.int x6), none, none], [], σ) (am_r S_m (fun q τ => q = some (.int r) ∧ τ = σ'))) (h : g_Mo_readList_110 go x1 x6 y0 σ = some (r, σ')) : am_A S_m M_Mo_readList (110, [some (.ref 0), some (.int x1), none, none, none, none, some (.int x6), none, none], [.int y0], σ) (am_r S_m (fun q τ => q = some (.int r) ∧ τ = σ')) := by
  unfold g_Mo_readList_110 at h
  refine a_istore i_Mo_readList_110 rfl ?_
  refine a_aload_n i_Mo_readList_112 rfl ?_
  refine a_get (v := .long (σ.1.2 0 37)) i_Mo_readList_113 rfl rfl ?_
  refine a_lstore_n i_Mo_readList_116 rfl ?_
  refine a_goto i_Mo_readList_117 ?_
  exact t_Mo_readList_239 hgo h
def g_Mo_readList_109 (go : Int32 → Int64 → Int32 → Int32 → am_S → Option (Int32 × am_S)) (x1 : Int32) (x6 : Int32) (σ : am_S) : Option (Int32 × am_S) :=
  g_Mo_readList_110 go x1 x6 (0) σ
set_option maxHeartbeats 4000000 in
theorem t_Mo_readList_109 {x1 : Int32} {x6 : Int32} {σ σ' : am_S} {r : Int32} {go : Int32 → Int64 → Int32 → Int32 → am_S → Option (Int32 × am_S)} (hgo : ∀ {x1 : Int32} {x3 : Int64} {x5 : Int32} {x6 : Int32} {σ σ' : am_S} {r : Int32}, go x1 x3 x5 x6 σ = some (r, σ') → am_A S_m M_Mo_readList (45, [some (.ref 0), some (.int x1), none, some (.long x3), none, some (.int x5), some (.int x6), none, none], [], σ) (am_r S_m (fun q τ => q = some (.int r) ∧ τ = σ'))) (h : g_Mo_readList_109 go x1 x6 σ = some (r, σ')) : am_A S_m M_Mo_readList (109, [some (.ref 0), some (.int x1), none, none, none, none, some (.int x6), none, none], [], σ) (am_r S_m (fun q τ => q = some (.int r) ∧ τ = σ')) := by
  unfold g_Mo_readList_109 at h
  refine a_iconst i_Mo_readList_109 ?_
  exact t_Mo_readList_110 hgo h
def g_Mo_readList_132 (go : Int32 → Int64 → Int32 → Int32 → am_S → Option (Int32 × am_S)) (x1 : Int32) (x3 : Int64) (x6 : Int32) (σ : am_S) : Option (Int32 × am_S) :=
  am_bd (g_Mo_rangeByIndex x1 x6 σ) fun v4 σ4 =>
  g_Mo_readList_239 go x1 x3 v4 x6 σ4
set_option maxHeartbeats 4000000 in
theorem t_Mo_readList_132 {x1 : Int32} {x3 : Int64} {x6 : Int32} {σ σ' : am_S} {r : Int32} {go : Int32 → Int64 → Int32 → Int32 → am_S → Option (Int32 × am_S)} (hgo : ∀ {x1 : Int32} {x3 : Int64} {x5 : Int32} {x6 : Int32} {σ σ' : am_S} {r : Int32}, go x1 x3 x5 x6 σ = some (r, σ') → am_A S_m M_Mo_readList (45, [some (.ref 0), some (.int x1), none, some (.long x3), none, some (.int x5), some (.int x6), none, none], [], σ) (am_r S_m (fun q τ => q = some (.int r) ∧ τ = σ'))) (h : g_Mo_readList_132 go x1 x3 x6 σ = some (r, σ')) : am_A S_m M_Mo_readList (132, [some (.ref 0), some (.int x1), none, some (.long x3), none, none, some (.int x6), none, none], [], σ) (am_r S_m (fun q τ => q = some (.int r) ∧ τ = σ')) := by
  unfold g_Mo_readList_132 at h
  refine a_aload_n i_Mo_readList_132 rfl ?_
  refine a_iload_n i_Mo_readList_133 rfl ?_
  refine a_iload i_Mo_readList_134 rfl ?_
  obtain ⟨v4, σ4, e4, h⟩ := am_bd_some h
  refine am_cvd (rest := []) [.int x1, .int x6] c_Mo_readList_136 ⟨by decide, _, rfl⟩ rfl (Nat.le_of_ble_eq_true rfl) (t_Mo_rangeByIndex e4) ?_
  refine a_istore i_Mo_readList_139 rfl ?_
  refine a_goto i_Mo_readList_141 ?_
  exact t_Mo_readList_239 hgo h
def g_Mo_readList_234 (go : Int32 → Int64 → Int32 → Int32 → am_S → Option (Int32 × am_S)) (x1 : Int32) (x3 : Int64) (x6 : Int32) (y0 : Int64) (y1 : Int64) (σ : am_S) : Option (Int32 × am_S) :=
  am_bd (g_Mo_range y1 y0 σ) fun v1 σ1 =>
  g_Mo_readList_239 go x1 x3 v1 x6 σ1
set_option maxHeartbeats 4000000 in
theorem t_Mo_readList_234 {x1 : Int32} {x3 : Int64} {x6 : Int32} {y0 : Int64} {y1 : Int64} {σ σ' : am_S} {r : Int32} {go : Int32 → Int64 → Int32 → Int32 → am_S → Option (Int32 × am_S)} (hgo : ∀ {x1 : Int32} {x3 : Int64} {x5 : Int32} {x6 : Int32} {σ σ' : am_S} {r : Int32}, go x1 x3 x5 x6 σ = some (r, σ') → am_A S_m M_Mo_readList (45, [some (.ref 0), some (.int x1), none, some (.long x3), none, some (.int x5), some (.int x6), none, none], [], σ) (am_r S_m (fun q τ => q = some (.int r) ∧ τ = σ'))) (h : g_Mo_readList_234 go x1 x3 x6 y0 y1 σ = some (r, σ')) : am_A S_m M_Mo_readList (234, [some (.ref 0), some (.int x1), none, some (.long x3), none, none, some (.int x6), none, none], [.long y0, .long y1, .ref 0], σ) (am_r S_m (fun q τ => q = some (.int r) ∧ τ = σ')) := by
  unfold g_Mo_readList_234 at h
  obtain ⟨v1, σ1, e1, h⟩ := am_bd_some h
  refine am_cvd (rest := []) [.long y1, .long y0] c_Mo_readList_234 ⟨by decide, _, rfl⟩ rfl (Nat.le_of_ble_eq_true rfl) (t_Mo_range e1) ?_
  refine a_istore i_Mo_readList_237 rfl ?_
  exact t_Mo_readList_239 hgo h
def g_Mo_readList_261 (x5 : Int32) (σ : am_S) : Option (Int32 × am_S) :=
  am_gd (z01 x5) <|
  some (x5, σ)
set_option maxHeartbeats 4000000 in
theorem t_Mo_readList_261 {x5 : Int32} {σ σ' : am_S} {r : Int32} (h : g_Mo_readList_261 x5 σ = some (r, σ')) : am_A S_m M_Mo_readList (261, [none, none, none, none, none, some (.int x5), none, none, none], [], σ) (am_r S_m (fun q τ => q = some (.int r) ∧ τ = σ')) := by
  unfold g_Mo_readList_261 at h
  refine a_iload i_Mo_readList_261 rfl ?_
  obtain ⟨c2, h⟩ := gd_some h
  exact am_ret_z ok_Mo_readList rfl rfl (z01_or c2) (am_lf_i h)
def g_Mo_readList_45 : Nat → Int32 → Int64 → Int32 → Int32 → am_S → Option (Int32 × am_S)
  | 0, _, _, _, _, _ => none
  | n + 1, x1, x3, x5, x6, σ =>
  if x5 = 0 then
    g_Mo_readList_261 x5 σ
  else
    if x6 = 0 then
      g_Mo_readList_261 x5 σ
    else
      am_bd (g_Mo_u (1) σ) fun v7 σ7 =>
      if (σ7.1.1 0 8) = 0 then
        if 7 < v7.toInt32 then
          g_Mo_readList_77 σ7
        else
          if v7.toInt32 = 1 then
            am_bd (g_Mo_leb (0) σ7) fun v23 σ23 =>
            am_bd (g_Mo_addressAt x1 v23 σ23) fun v24 σ24 =>
            if v24 = 0 then
              g_Mo_readList_109 (g_Mo_readList_45 n) x1 v7.toInt32 σ24
            else
              if (σ24.1.1 0 8) = 0 then
                g_Mo_readList_110 (g_Mo_readList_45 n) x1 v7.toInt32 (1) σ24
              else
                g_Mo_readList_109 (g_Mo_readList_45 n) x1 v7.toInt32 σ24
          else
            if v7.toInt32 = 2 then
              g_Mo_readList_132 (g_Mo_readList_45 n) x1 x3 v7.toInt32 σ7
            else
              if v7.toInt32 = 3 then
                g_Mo_readList_132 (g_Mo_readList_45 n) x1 x3 v7.toInt32 σ7
              else
                if v7.toInt32 = 4 then
                  am_bd (g_Mo_leb (0) σ7) fun v31 σ31 =>
                  am_bd (g_Mo_leb (0) σ31) fun v39 σ39 =>
                  am_bd (g_Mo_range (x3 + v31) (x3 + v39) σ39) fun v41 σ41 =>
                  g_Mo_readList_239 (g_Mo_readList_45 n) x1 x3 v41 v7.toInt32 σ41
                else
                  if v7.toInt32 = 5 then
                    am_bd (g_Mo_u (8) σ7) fun v33 σ33 =>
                    g_Mo_readList_239 (g_Mo_readList_45 n) x1 v33 x5 v7.toInt32 σ33
                  else
                    if 5 < v7.toInt32 then
                      am_bd (g_Mo_u (8) σ7) fun v36 σ36 =>
                      if v7.toInt32 = 6 then
                        am_bd (g_Mo_u (8) σ36) fun v45 σ45 =>
                        g_Mo_readList_234 (g_Mo_readList_45 n) x1 x3 v7.toInt32 v45 v36 σ45
                      else
                        am_bd (g_Mo_leb (0) σ36) fun v46 σ46 =>
                        g_Mo_readList_234 (g_Mo_readList_45 n) x1 x3 v7.toInt32 (v36 + v46) v36 σ46
                    else
                      g_Mo_readList_239 (g_Mo_readList_45 n) x1 x3 x5 v7.toInt32 σ7
      else
        g_Mo_readList_77 σ7
set_option maxHeartbeats 4000000 in
theorem t_Mo_readList_45 : ∀ (n : Nat) {x1 : Int32} {x3 : Int64} {x5 : Int32} {x6 : Int32} {σ σ' : am_S} {r : Int32} (h : g_Mo_readList_45 n x1 x3 x5 x6 σ = some (r, σ')), am_A S_m M_Mo_readList (45, [some (.ref 0), some (.int x1), none, some (.long x3), none, some (.int x5), some (.int x6), none, none], [], σ) (am_r S_m (fun q τ => q = some (.int r) ∧ τ = σ')) := by
  intro n
  induction n with
  | zero =>
    intro x1 x3 x5 x6 σ σ' r h
    cases h
  | succ n ih =>
  intro x1 x3 x5 x6 σ σ' r h
  unfold g_Mo_readList_45 at h
  refine a_iload i_Mo_readList_45 rfl ?_
  by_cases c2 : x5 = 0
  · rw [if_pos c2] at h
    refine a_ift i_Mo_readList_47 c2 ?_
    exact am_wk (t_Mo_readList_261 h) ⟨Or.inl rfl, Or.inl rfl, Or.inl rfl, Or.inl rfl, Or.inl rfl, Or.inr rfl, Or.inl rfl, Or.inl rfl, Or.inl rfl, trivial⟩
  · rw [if_neg c2] at h
    refine a_iff i_Mo_readList_47 c2 ?_
    refine a_iload i_Mo_readList_50 rfl ?_
    by_cases c4 : x6 = 0
    · rw [if_pos c4] at h
      refine a_ift i_Mo_readList_52 c4 ?_
      exact am_wk (t_Mo_readList_261 h) ⟨Or.inl rfl, Or.inl rfl, Or.inl rfl, Or.inl rfl, Or.inl rfl, Or.inr rfl, Or.inl rfl, Or.inl rfl, Or.inl rfl, trivial⟩
    · rw [if_neg c4] at h
      refine a_iff i_Mo_readList_52 c4 ?_
      refine a_aload_n i_Mo_readList_55 rfl ?_
      refine a_iconst i_Mo_readList_56 ?_
      obtain ⟨v7, σ7, e7, h⟩ := am_bd_some h
      refine am_cvd (rest := []) [.int 1] c_Mo_readList_57 ⟨by decide, _, rfl⟩ rfl (Nat.le_of_ble_eq_true rfl) (t_Mo_u e7) ?_
      refine a_l2i i_Mo_readList_60 ?_
      refine a_istore i_Mo_readList_61 rfl ?_
      refine a_aload_n i_Mo_readList_63 rfl ?_
      refine a_get (v := .int (σ7.1.1 0 8)) i_Mo_readList_64 rfl rfl ?_
      by_cases c12 : (σ7.1.1 0 8) = 0
      · rw [if_pos c12] at h
        refine a_iff i_Mo_readList_67 c12 ?_
        refine a_iload i_Mo_readList_70 rfl ?_
        refine a_bipush i_Mo_readList_72 ?_
        by_cases c15 : 7 < v7.toInt32
        · rw [if_pos c15] at h
          refine a_icf i_Mo_readList_74 (Int32.not_le.mpr c15) ?_
          exact am_wk (t_Mo_readList_77 h) ⟨Or.inl rfl, Or.inl rfl, Or.inl rfl, Or.inl rfl, Or.inl rfl, Or.inl rfl, Or.inl rfl, Or.inl rfl, Or.inl rfl, trivial⟩
        · rw [if_neg c15] at h
          refine a_ict i_Mo_readList_74 (Int32.not_lt.mp c15) ?_
          refine a_iload i_Mo_readList_79 rfl ?_
          refine a_iconst i_Mo_readList_81 ?_
          by_cases c18 : v7.toInt32 = 1
          · rw [if_pos c18] at h
            refine a_icf i_Mo_readList_82 c18 ?_
            refine a_aload_n i_Mo_readList_85 rfl ?_
            refine a_iload_n i_Mo_readList_86 rfl ?_
            refine a_aload_n i_Mo_readList_87 rfl ?_
            refine a_iconst i_Mo_readList_88 ?_
            obtain ⟨v23, σ23, e23, h⟩ := am_bd_some h
            refine am_cvd (rest := [.int x1, .ref 0]) [.int 0] c_Mo_readList_89 ⟨by decide, _, rfl⟩ rfl (Nat.le_of_ble_eq_true rfl) (t_Mo_leb e23) ?_
            obtain ⟨v24, σ24, e24, h⟩ := am_bd_some h
            refine am_cvd (rest := []) [.int x1, .long v23] c_Mo_readList_92 ⟨by decide, _, rfl⟩ rfl (Nat.le_of_ble_eq_true rfl) (t_Mo_addressAt e24) ?_
            by_cases c25 : v24 = 0
            · rw [if_pos c25] at h
              refine a_ift i_Mo_readList_95 c25 ?_
              exact am_wk (t_Mo_readList_109 (fun h => ih h) h) ⟨Or.inr rfl, Or.inr rfl, Or.inl rfl, Or.inl rfl, Or.inl rfl, Or.inl rfl, Or.inr rfl, Or.inl rfl, Or.inl rfl, trivial⟩
            · rw [if_neg c25] at h
              refine a_iff i_Mo_readList_95 c25 ?_
              refine a_aload_n i_Mo_readList_98 rfl ?_
              refine a_get (v := .int (σ24.1.1 0 8)) i_Mo_readList_99 rfl rfl ?_
              by_cases c28 : (σ24.1.1 0 8) = 0
              · rw [if_pos c28] at h
                refine a_iff i_Mo_readList_102 c28 ?_
                refine a_iconst i_Mo_readList_105 ?_
                refine a_goto i_Mo_readList_106 ?_
                exact am_wk (t_Mo_readList_110 (fun h => ih h) h) ⟨Or.inr rfl, Or.inr rfl, Or.inl rfl, Or.inl rfl, Or.inl rfl, Or.inl rfl, Or.inr rfl, Or.inl rfl, Or.inl rfl, trivial⟩
              · rw [if_neg c28] at h
                refine a_ift i_Mo_readList_102 c28 ?_
                exact am_wk (t_Mo_readList_109 (fun h => ih h) h) ⟨Or.inr rfl, Or.inr rfl, Or.inl rfl, Or.inl rfl, Or.inl rfl, Or.inl rfl, Or.inr rfl, Or.inl rfl, Or.inl rfl, trivial⟩
          · rw [if_neg c18] at h
            refine a_ict i_Mo_readList_82 c18 ?_
            refine a_iload i_Mo_readList_120 rfl ?_
            refine a_iconst i_Mo_readList_122 ?_
            by_cases c21 : v7.toInt32 = 2
            · rw [if_pos c21] at h
              refine a_ict i_Mo_readList_123 c21 ?_
              exact am_wk (t_Mo_readList_132 (fun h => ih h) h) ⟨Or.inr rfl, Or.inr rfl, Or.inl rfl, Or.inr rfl, Or.inl rfl, Or.inl rfl, Or.inr rfl, Or.inl rfl, Or.inl rfl, trivial⟩
            · rw [if_neg c21] at h
              refine a_icf i_Mo_readList_123 c21 ?_
              refine a_iload i_Mo_readList_126 rfl ?_
              refine a_iconst i_Mo_readList_128 ?_
              by_cases c24 : v7.toInt32 = 3
              · rw [if_pos c24] at h
                refine a_icf i_Mo_readList_129 c24 ?_
                exact am_wk (t_Mo_readList_132 (fun h => ih h) h) ⟨Or.inr rfl, Or.inr rfl, Or.inl rfl, Or.inr rfl, Or.inl rfl, Or.inl rfl, Or.inr rfl, Or.inl rfl, Or.inl rfl, trivial⟩
              · rw [if_neg c24] at h
                refine a_ict i_Mo_readList_129 c24 ?_
                refine a_iload i_Mo_readList_144 rfl ?_
                refine a_iconst i_Mo_readList_146 ?_
                by_cases c27 : v7.toInt32 = 4
                · rw [if_pos c27] at h
                  refine a_icf i_Mo_readList_147 c27 ?_
                  refine a_lload_n i_Mo_readList_150 rfl ?_
                  refine a_aload_n i_Mo_readList_151 rfl ?_
                  refine a_iconst i_Mo_readList_152 ?_
                  obtain ⟨v31, σ31, e31, h⟩ := am_bd_some h
                  refine am_cvd (rest := [.long x3]) [.int 0] c_Mo_readList_153 ⟨by decide, _, rfl⟩ rfl (Nat.le_of_ble_eq_true rfl) (t_Mo_leb e31) ?_
                  refine a_ladd i_Mo_readList_156 ?_
                  refine a_lstore i_Mo_readList_157 rfl ?_
                  refine a_aload_n i_Mo_readList_159 rfl ?_
                  refine a_lload i_Mo_readList_160 rfl ?_
                  refine a_lload_n i_Mo_readList_162 rfl ?_
                  refine a_aload_n i_Mo_readList_163 rfl ?_
                  refine a_iconst i_Mo_readList_164 ?_
                  obtain ⟨v39, σ39, e39, h⟩ := am_bd_some h
                  refine am_cvd (rest := [.long x3, .long (x3 + v31), .ref 0]) [.int 0] c_Mo_readList_165 ⟨by decide, _, rfl⟩ rfl (Nat.le_of_ble_eq_true rfl) (t_Mo_leb e39) ?_
                  refine a_ladd i_Mo_readList_168 ?_
                  obtain ⟨v41, σ41, e41, h⟩ := am_bd_some h
                  refine am_cvd (rest := []) [.long (x3 + v31), .long (x3 + v39)] c_Mo_readList_169 ⟨by decide, _, rfl⟩ rfl (Nat.le_of_ble_eq_true rfl) (t_Mo_range e41) ?_
                  refine a_istore i_Mo_readList_172 rfl ?_
                  refine a_goto i_Mo_readList_174 ?_
                  exact am_wk (t_Mo_readList_239 (fun h => ih h) h) ⟨Or.inr rfl, Or.inr rfl, Or.inl rfl, Or.inr rfl, Or.inl rfl, Or.inr rfl, Or.inr rfl, Or.inl rfl, Or.inl rfl, trivial⟩
                · rw [if_neg c27] at h
                  refine a_ict i_Mo_readList_147 c27 ?_
                  refine a_iload i_Mo_readList_177 rfl ?_
                  refine a_iconst i_Mo_readList_179 ?_
                  by_cases c30 : v7.toInt32 = 5
                  · rw [if_pos c30] at h
                    refine a_icf i_Mo_readList_180 c30 ?_
                    refine a_aload_n i_Mo_readList_183 rfl ?_
                    refine a_bipush i_Mo_readList_184 ?_
                    obtain ⟨v33, σ33, e33, h⟩ := am_bd_some h
                    refine am_cvd (rest := []) [.int 8] c_Mo_readList_186 ⟨by decide, _, rfl⟩ rfl (Nat.le_of_ble_eq_true rfl) (t_Mo_u e33) ?_
                    refine a_lstore_n i_Mo_readList_189 rfl ?_
                    refine a_goto i_Mo_readList_190 ?_
                    exact t_Mo_readList_239 (fun h => ih h) h
                  · rw [if_neg c30] at h
                    refine a_ict i_Mo_readList_180 c30 ?_
                    refine a_iload i_Mo_readList_193 rfl ?_
                    refine a_iconst i_Mo_readList_195 ?_
                    by_cases c33 : 5 < v7.toInt32
                    · rw [if_pos c33] at h
                      refine a_icf i_Mo_readList_196 (Int32.not_le.mpr c33) ?_
                      refine a_aload_n i_Mo_readList_199 rfl ?_
                      refine a_bipush i_Mo_readList_200 ?_
                      obtain ⟨v36, σ36, e36, h⟩ := am_bd_some h
                      refine am_cvd (rest := []) [.int 8] c_Mo_readList_202 ⟨by decide, _, rfl⟩ rfl (Nat.le_of_ble_eq_true rfl) (t_Mo_u e36) ?_
                      refine a_lstore i_Mo_readList_205 rfl ?_
                      refine a_aload_n i_Mo_readList_207 rfl ?_
                      refine a_lload i_Mo_readList_208 rfl ?_
                      refine a_iload i_Mo_readList_210 rfl ?_
                      refine a_bipush i_Mo_readList_212 ?_
                      by_cases c42 : v7.toInt32 = 6
                      · rw [if_pos c42] at h
                        refine a_icf i_Mo_readList_214 c42 ?_
                        refine a_aload_n i_Mo_readList_217 rfl ?_
                        refine a_bipush i_Mo_readList_218 ?_
                        obtain ⟨v45, σ45, e45, h⟩ := am_bd_some h
                        refine am_cvd (rest := [.long v36, .ref 0]) [.int 8] c_Mo_readList_220 ⟨by decide, _, rfl⟩ rfl (Nat.le_of_ble_eq_true rfl) (t_Mo_u e45) ?_
                        refine a_goto i_Mo_readList_223 ?_
                        exact am_wk (t_Mo_readList_234 (fun h => ih h) h) ⟨Or.inr rfl, Or.inr rfl, Or.inl rfl, Or.inr rfl, Or.inl rfl, Or.inl rfl, Or.inr rfl, Or.inl rfl, Or.inl rfl, trivial⟩
                      · rw [if_neg c42] at h
                        refine a_ict i_Mo_readList_214 c42 ?_
                        refine a_lload i_Mo_readList_226 rfl ?_
                        refine a_aload_n i_Mo_readList_228 rfl ?_
                        refine a_iconst i_Mo_readList_229 ?_
                        obtain ⟨v46, σ46, e46, h⟩ := am_bd_some h
                        refine am_cvd (rest := [.long v36, .long v36, .ref 0]) [.int 0] c_Mo_readList_230 ⟨by decide, _, rfl⟩ rfl (Nat.le_of_ble_eq_true rfl) (t_Mo_leb e46) ?_
                        refine a_ladd i_Mo_readList_233 ?_
                        exact am_wk (t_Mo_readList_234 (fun h => ih h) h) ⟨Or.inr rfl, Or.inr rfl, Or.inl rfl, Or.inr rfl, Or.inl rfl, Or.inl rfl, Or.inr rfl, Or.inl rfl, Or.inl rfl, trivial⟩
                    · rw [if_neg c33] at h
                      refine a_ict i_Mo_readList_196 (Int32.not_lt.mp c33) ?_
                      exact t_Mo_readList_239 (fun h => ih h) h
      · rw [if_neg c12] at h
        refine a_ift i_Mo_readList_67 c12 ?_
        exact am_wk (t_Mo_readList_77 h) ⟨Or.inl rfl, Or.inl rfl, Or.inl rfl, Or.inl rfl, Or.inl rfl, Or.inl rfl, Or.inl rfl, Or.inl rfl, Or.inl rfl, trivial⟩
def g_Mo_readList_38 (x1 : Int32) (y0 : Int64) (σ : am_S) : Option (Int32 × am_S) :=
  g_Mo_readList_45 4000 x1 y0 (1) (1) σ
set_option maxHeartbeats 4000000 in
theorem t_Mo_readList_38 {x1 : Int32} {y0 : Int64} {σ σ' : am_S} {r : Int32} (h : g_Mo_readList_38 x1 y0 σ = some (r, σ')) : am_A S_m M_Mo_readList (38, [some (.ref 0), some (.int x1), none, none, none, none, none, none, none], [.long y0], σ) (am_r S_m (fun q τ => q = some (.int r) ∧ τ = σ')) := by
  unfold g_Mo_readList_38 at h
  refine a_lstore_n i_Mo_readList_38 rfl ?_
  refine a_iconst i_Mo_readList_39 ?_
  refine a_istore i_Mo_readList_40 rfl ?_
  refine a_iconst i_Mo_readList_42 ?_
  refine a_istore i_Mo_readList_43 rfl ?_
  exact t_Mo_readList_45 4000 h
def g_Mo_readList_37 (x1 : Int32) (σ : am_S) : Option (Int32 × am_S) :=
  g_Mo_readList_38 x1 (0) σ
set_option maxHeartbeats 4000000 in
theorem t_Mo_readList_37 {x1 : Int32} {σ σ' : am_S} {r : Int32} (h : g_Mo_readList_37 x1 σ = some (r, σ')) : am_A S_m M_Mo_readList (37, [some (.ref 0), some (.int x1), none, none, none, none, none, none, none], [], σ) (am_r S_m (fun q τ => q = some (.int r) ∧ τ = σ')) := by
  unfold g_Mo_readList_37 at h
  refine a_lconst i_Mo_readList_37 ?_
  exact t_Mo_readList_38 h
def g_Mo_readList (x1 : Int32) (σ : am_S) : Option (Int32 × am_S) :=
  am_gd (inb x1 200) <|
  am_gd (inb (σ.2.1 19 x1.toNatClampNeg) 4) <|
  am_bd (g_Mo_has (σ.2.1 14 (σ.2.1 19 x1.toNatClampNeg).toNatClampNeg) (1) σ) fun v12 σ12 =>
  if v12 = 0 then
    g_Mo_readList_37 x1 σ12
  else
    am_bd (g_Mo_address (σ.2.1 14 (σ.2.1 19 x1.toNatClampNeg).toNatClampNeg) (1) σ12) fun v17 σ17 =>
    if v17 = 0 then
      g_Mo_readList_37 x1 σ17
    else
      g_Mo_readList_38 x1 (σ17.1.2 0 37) σ17
set_option maxHeartbeats 4000000 in
theorem t_Mo_readList_0 {x1 : Int32} {σ σ' : am_S} {r : Int32} (h : g_Mo_readList x1 σ = some (r, σ')) : am_A S_m M_Mo_readList (0, [some (.ref 0), some (.int x1), none, none, none, none, none, none, none], [], σ) (am_r S_m (fun q τ => q = some (.int r) ∧ τ = σ')) := by
  unfold g_Mo_readList at h
  refine a_aload_n i_Mo_readList_0 rfl ?_
  refine a_get (v := .ref 14) i_Mo_readList_1 rfl rfl ?_
  refine a_aload_n i_Mo_readList_4 rfl ?_
  refine a_get (v := .ref 19) i_Mo_readList_5 rfl rfl ?_
  refine a_iload_n i_Mo_readList_8 rfl ?_
  obtain ⟨c6, h⟩ := gd_some h
  refine a_ial (n := 200) i_Mo_readList_9 (by decide) rfl rfl (inb_in c6) ?_
  obtain ⟨c7, h⟩ := gd_some h
  refine a_ial (n := 4) i_Mo_readList_10 (by decide) rfl rfl (inb_in c7) ?_
  refine a_istore_n i_Mo_readList_11 rfl ?_
  refine a_aload_n i_Mo_readList_12 rfl ?_
  refine a_iload_n i_Mo_readList_13 rfl ?_
  refine a_iconst i_Mo_readList_14 ?_
  obtain ⟨v12, σ12, e12, h⟩ := am_bd_some h
  refine am_cvd (rest := []) [.int (σ.2.1 14 (σ.2.1 19 x1.toNatClampNeg).toNatClampNeg), .int 1] c_Mo_readList_15 ⟨by decide, _, rfl⟩ rfl (Nat.le_of_ble_eq_true rfl) (t_Mo_has e12) ?_
  by_cases c13 : v12 = 0
  · rw [if_pos c13] at h
    refine a_ift i_Mo_readList_18 c13 ?_
    exact am_wk (t_Mo_readList_37 h) ⟨Or.inr rfl, Or.inr rfl, Or.inl rfl, Or.inl rfl, Or.inl rfl, Or.inl rfl, Or.inl rfl, Or.inl rfl, Or.inl rfl, trivial⟩
  · rw [if_neg c13] at h
    refine a_iff i_Mo_readList_18 c13 ?_
    refine a_aload_n i_Mo_readList_21 rfl ?_
    refine a_iload_n i_Mo_readList_22 rfl ?_
    refine a_iconst i_Mo_readList_23 ?_
    obtain ⟨v17, σ17, e17, h⟩ := am_bd_some h
    refine am_cvd (rest := []) [.int (σ.2.1 14 (σ.2.1 19 x1.toNatClampNeg).toNatClampNeg), .int 1] c_Mo_readList_24 ⟨by decide, _, rfl⟩ rfl (Nat.le_of_ble_eq_true rfl) (t_Mo_address e17) ?_
    by_cases c18 : v17 = 0
    · rw [if_pos c18] at h
      refine a_ift i_Mo_readList_27 c18 ?_
      exact am_wk (t_Mo_readList_37 h) ⟨Or.inr rfl, Or.inr rfl, Or.inl rfl, Or.inl rfl, Or.inl rfl, Or.inl rfl, Or.inl rfl, Or.inl rfl, Or.inl rfl, trivial⟩
    · rw [if_neg c18] at h
      refine a_iff i_Mo_readList_27 c18 ?_
      refine a_aload_n i_Mo_readList_30 rfl ?_
      refine a_get (v := .long (σ17.1.2 0 37)) i_Mo_readList_31 rfl rfl ?_
      refine a_goto i_Mo_readList_34 ?_
      exact am_wk (t_Mo_readList_38 h) ⟨Or.inr rfl, Or.inr rfl, Or.inl rfl, Or.inl rfl, Or.inl rfl, Or.inl rfl, Or.inl rfl, Or.inl rfl, Or.inl rfl, trivial⟩
theorem t_Mo_readList {x1 : Int32} {σ σ' : am_S} {r : Int32} (h : g_Mo_readList x1 σ = some (r, σ')) : am_Mt S_m M_Mo_readList [.ref 0, .int x1] σ (fun q τ => q = some (.int r) ∧ τ = σ') :=
  am_M_of ok_Mo_readList (Nat.le_of_ble_eq_true rfl) (t_Mo_readList_0 h)
def g_Mo_readRanges_27 (σ : am_S) : Option (Int32 × am_S) :=
  some (1, σ)
set_option maxHeartbeats 4000000 in
theorem t_Mo_readRanges_27 {σ σ' : am_S} {r : Int32} (h : g_Mo_readRanges_27 σ = some (r, σ')) : am_A S_m M_Mo_readRanges (27, [none, none, none, none, none, none, none], [], σ) (am_r S_m (fun q τ => q = some (.int r) ∧ τ = σ')) := by
  unfold g_Mo_readRanges_27 at h
  refine a_iconst i_Mo_readRanges_27 ?_
  exact am_ret_z ok_Mo_readRanges rfl rfl (Or.inr rfl) (am_lf_i h)
def g_Mo_readRanges_123 (y0 : Int32) (σ : am_S) : Option (Int32 × am_S) :=
  am_gd (z01 y0) <|
  some (y0, σ)
set_option maxHeartbeats 4000000 in
theorem t_Mo_readRanges_123 {y0 : Int32} {σ σ' : am_S} {r : Int32} (h : g_Mo_readRanges_123 y0 σ = some (r, σ')) : am_A S_m M_Mo_readRanges (123, [none, none, none, none, none, none, none], [.int y0], σ) (am_r S_m (fun q τ => q = some (.int r) ∧ τ = σ')) := by
  unfold g_Mo_readRanges_123 at h
  obtain ⟨c1, h⟩ := gd_some h
  exact am_ret_z ok_Mo_readRanges rfl rfl (z01_or c1) (am_lf_i h)
def g_Mo_readRanges_122 (σ : am_S) : Option (Int32 × am_S) :=
  g_Mo_readRanges_123 (0) σ
set_option maxHeartbeats 4000000 in
theorem t_Mo_readRanges_122 {σ σ' : am_S} {r : Int32} (h : g_Mo_readRanges_122 σ = some (r, σ')) : am_A S_m M_Mo_readRanges (122, [none, none, none, none, none, none, none], [], σ) (am_r S_m (fun q τ => q = some (.int r) ∧ τ = σ')) := by
  unfold g_Mo_readRanges_122 at h
  refine a_iconst i_Mo_readRanges_122 ?_
  exact t_Mo_readRanges_123 h
def g_Mo_readRanges_112 (y0 : Int64) (y1 : Int64) (σ : am_S) : Option (Int32 × am_S) :=
  am_bd (g_Mo_range y1 y0 σ) fun v1 σ1 =>
  if v1 = 0 then
    g_Mo_readRanges_122 σ1
  else
    g_Mo_readRanges_123 (1) σ1
set_option maxHeartbeats 4000000 in
theorem t_Mo_readRanges_112 {y0 : Int64} {y1 : Int64} {σ σ' : am_S} {r : Int32} (h : g_Mo_readRanges_112 y0 y1 σ = some (r, σ')) : am_A S_m M_Mo_readRanges (112, [none, none, none, none, none, none, none], [.long y0, .long y1, .ref 0], σ) (am_r S_m (fun q τ => q = some (.int r) ∧ τ = σ')) := by
  unfold g_Mo_readRanges_112 at h
  obtain ⟨v1, σ1, e1, h⟩ := am_bd_some h
  refine am_cvd (rest := []) [.long y1, .long y0] c_Mo_readRanges_112 ⟨by decide, _, rfl⟩ rfl (Nat.le_of_ble_eq_true rfl) (t_Mo_range e1) ?_
  by_cases c2 : v1 = 0
  · rw [if_pos c2] at h
    refine a_ift i_Mo_readRanges_115 c2 ?_
    exact t_Mo_readRanges_122 h
  · rw [if_neg c2] at h
    refine a_iff i_Mo_readRanges_115 c2 ?_
    refine a_iconst i_Mo_readRanges_118 ?_
    refine a_goto i_Mo_readRanges_119 ?_
    exact t_Mo_readRanges_123 h
def g_Mo_readRanges_67 (x1 : Int32) (x2 : Int32) (x3 : Int64) (y0 : Int32) (σ : am_S) : Option (Int32 × am_S) :=
  if x2 = 0 then
    g_Mo_readRanges_122 (am_fi σ 0 8 0)
  else
    if y0 = 0 then
      g_Mo_readRanges_122 (am_fi σ 0 8 0)
    else
      am_bd (g_Mo_formAt x1 (2) (am_fi σ 0 8 0)) fun v14 σ14 =>
      am_bd (g_Mo_isConstant v14 σ14) fun v15 σ15 =>
      if v15 = 0 then
        g_Mo_readRanges_112 (σ15.1.2 0 37) x3 σ15
      else
        am_bd (g_Mo_valueAt x1 (2) σ15) fun v21 σ21 =>
        g_Mo_readRanges_112 (x3 + v21) x3 σ21
set_option maxHeartbeats 4000000 in
theorem t_Mo_readRanges_67 {x1 : Int32} {x2 : Int32} {x3 : Int64} {y0 : Int32} {σ σ' : am_S} {r : Int32} (h : g_Mo_readRanges_67 x1 x2 x3 y0 σ = some (r, σ')) : am_A S_m M_Mo_readRanges (67, [some (.ref 0), some (.int x1), some (.int x2), some (.long x3), none, none, none], [.int y0], σ) (am_r S_m (fun q τ => q = some (.int r) ∧ τ = σ')) := by
  unfold g_Mo_readRanges_67 at h
  refine a_istore i_Mo_readRanges_67 rfl ?_
  refine a_aload_n i_Mo_readRanges_69 rfl ?_
  refine a_iconst i_Mo_readRanges_70 ?_
  refine a_puti i_Mo_readRanges_71 rfl (Or.inl rfl) ?_
  refine a_iload_n i_Mo_readRanges_74 rfl ?_
  by_cases c6 : x2 = 0
  · rw [if_pos c6] at h
    refine a_ift i_Mo_readRanges_75 c6 ?_
    exact am_wk (t_Mo_readRanges_122 h) ⟨Or.inl rfl, Or.inl rfl, Or.inl rfl, Or.inl rfl, Or.inl rfl, Or.inl rfl, Or.inl rfl, trivial⟩
  · rw [if_neg c6] at h
    refine a_iff i_Mo_readRanges_75 c6 ?_
    refine a_iload i_Mo_readRanges_78 rfl ?_
    by_cases c8 : y0 = 0
    · rw [if_pos c8] at h
      refine a_ift i_Mo_readRanges_80 c8 ?_
      exact am_wk (t_Mo_readRanges_122 h) ⟨Or.inl rfl, Or.inl rfl, Or.inl rfl, Or.inl rfl, Or.inl rfl, Or.inl rfl, Or.inl rfl, trivial⟩
    · rw [if_neg c8] at h
      refine a_iff i_Mo_readRanges_80 c8 ?_
      refine a_aload_n i_Mo_readRanges_83 rfl ?_
      refine a_lload_n i_Mo_readRanges_84 rfl ?_
      refine a_aload_n i_Mo_readRanges_85 rfl ?_
      refine a_iload_n i_Mo_readRanges_86 rfl ?_
      refine a_iconst i_Mo_readRanges_87 ?_
      obtain ⟨v14, σ14, e14, h⟩ := am_bd_some h
      refine am_cvd (rest := [.long x3, .ref 0]) [.int x1, .int 2] c_Mo_readRanges_88 ⟨by decide, _, rfl⟩ rfl (Nat.le_of_ble_eq_true rfl) (t_Mo_formAt e14) ?_
      obtain ⟨v15, σ15, e15, h⟩ := am_bd_some h
      refine am_csd (rest := [.long x3, .ref 0]) [.int v14] c_Mo_readRanges_91 rfl (Nat.le_of_ble_eq_true rfl) (t_Mo_isConstant e15) ?_
      by_cases c16 : v15 = 0
      · rw [if_pos c16] at h
        refine a_ift i_Mo_readRanges_94 c16 ?_
        refine a_aload_n i_Mo_readRanges_108 rfl ?_
        refine a_get (v := .long (σ15.1.2 0 37)) i_Mo_readRanges_109 rfl rfl ?_
        exact am_wk (t_Mo_readRanges_112 h) ⟨Or.inl rfl, Or.inl rfl, Or.inl rfl, Or.inl rfl, Or.inl rfl, Or.inl rfl, Or.inl rfl, trivial⟩
      · rw [if_neg c16] at h
        refine a_iff i_Mo_readRanges_94 c16 ?_
        refine a_lload_n i_Mo_readRanges_97 rfl ?_
        refine a_aload_n i_Mo_readRanges_98 rfl ?_
        refine a_iload_n i_Mo_readRanges_99 rfl ?_
        refine a_iconst i_Mo_readRanges_100 ?_
        obtain ⟨v21, σ21, e21, h⟩ := am_bd_some h
        refine am_cvd (rest := [.long x3, .long x3, .ref 0]) [.int x1, .int 2] c_Mo_readRanges_101 ⟨by decide, _, rfl⟩ rfl (Nat.le_of_ble_eq_true rfl) (t_Mo_valueAt e21) ?_
        refine a_ladd i_Mo_readRanges_104 ?_
        refine a_goto i_Mo_readRanges_105 ?_
        exact am_wk (t_Mo_readRanges_112 h) ⟨Or.inl rfl, Or.inl rfl, Or.inl rfl, Or.inl rfl, Or.inl rfl, Or.inl rfl, Or.inl rfl, trivial⟩
def g_Mo_readRanges_62 (x1 : Int32) (x2 : Int32) (x3 : Int64) (σ : am_S) : Option (Int32 × am_S) :=
  g_Mo_readRanges_67 x1 x2 x3 (1) σ
set_option maxHeartbeats 4000000 in
theorem t_Mo_readRanges_62 {x1 : Int32} {x2 : Int32} {x3 : Int64} {σ σ' : am_S} {r : Int32} (h : g_Mo_readRanges_62 x1 x2 x3 σ = some (r, σ')) : am_A S_m M_Mo_readRanges (62, [some (.ref 0), some (.int x1), some (.int x2), some (.long x3), none, none, none], [], σ) (am_r S_m (fun q τ => q = some (.int r) ∧ τ = σ')) := by
  unfold g_Mo_readRanges_62 at h
  refine a_iconst i_Mo_readRanges_62 ?_
  refine a_goto i_Mo_readRanges_63 ?_
  exact t_Mo_readRanges_67 h
def g_Mo_readRanges_182 (x1 : Int32) (x2 : Int64) (σ : am_S) : Option (Int32 × am_S) :=
  am_bd (g_Mo_enter (6) x2 σ) fun _ σ4 =>
  am_bd (g_Mo_readList x1 σ4) fun v7 σ7 =>
  am_gd (z01 v7) <|
  some (v7, σ7)
set_option maxHeartbeats 4000000 in
theorem t_Mo_readRanges_182 {x1 : Int32} {x2 : Int64} {σ σ' : am_S} {r : Int32} (h : g_Mo_readRanges_182 x1 x2 σ = some (r, σ')) : am_A S_m M_Mo_readRanges (182, [some (.ref 0), some (.int x1), some (.long x2), none, none, none, none], [], σ) (am_r S_m (fun q τ => q = some (.int r) ∧ τ = σ')) := by
  unfold g_Mo_readRanges_182 at h
  refine a_aload_n i_Mo_readRanges_182 rfl ?_
  refine a_bipush i_Mo_readRanges_183 ?_
  refine a_lload_n i_Mo_readRanges_185 rfl ?_
  obtain ⟨v4, σ4, e4, h⟩ := am_bd_some h
  refine am_cvd (rest := []) [.int 6, .long x2] c_Mo_readRanges_186 ⟨by decide, _, rfl⟩ rfl (Nat.le_of_ble_eq_true rfl) (t_Mo_enter e4) ?_
  refine a_aload_n i_Mo_readRanges_189 rfl ?_
  refine a_iload_n i_Mo_readRanges_190 rfl ?_
  obtain ⟨v7, σ7, e7, h⟩ := am_bd_some h
  refine am_cvd (rest := []) [.int x1] c_Mo_readRanges_191 ⟨by decide, _, rfl⟩ rfl (Nat.le_of_ble_eq_true rfl) (t_Mo_readList e7) ?_
  obtain ⟨c8, h⟩ := gd_some h
  exact am_ret_z ok_Mo_readRanges rfl rfl (z01_or c8) (am_lf_i h)
def g_Mo_readRanges (x1 : Int32) (σ : am_S) : Option (Int32 × am_S) :=
  am_bd (g_Mo_has x1 (3) σ) fun v4 σ4 =>
  if v4 = 0 then
    am_bd (g_Mo_has x1 (1) σ4) fun v9 σ9 =>
    if v9 = 0 then
      g_Mo_readRanges_27 σ9
    else
      am_bd (g_Mo_has x1 (2) σ9) fun v14 σ14 =>
      if v14 = 0 then
        g_Mo_readRanges_27 σ14
      else
        am_bd (g_Mo_address x1 (1) σ14) fun v19 σ19 =>
        am_bd (g_Mo_formAt x1 (2) σ19) fun v27 σ27 =>
        am_bd (g_Mo_isConstant v27 σ27) fun v28 σ28 =>
        if v28 = 0 then
          am_bd (g_Mo_address x1 (2) σ28) fun v33 σ33 =>
          if v33 = 0 then
            g_Mo_readRanges_67 x1 v19 (σ19.1.2 0 37) (0) σ33
          else
            g_Mo_readRanges_62 x1 v19 (σ19.1.2 0 37) σ33
        else
          g_Mo_readRanges_62 x1 v19 (σ19.1.2 0 37) σ28
  else
    am_bd (g_Mo_valueAt x1 (3) σ4) fun v9 σ9 =>
    am_bd (g_Mo_formAt x1 (3) σ9) fun v14 σ14 =>
    if v14 = 35 then
      am_bd (g_Mo_baseOf x1 (10) σ14) fun v20 σ20 =>
      am_bd (g_Mo_indexed (6) v20 v9 (4) σ20) fun v27 σ27 =>
      if v27 = (-1) then
        some (0, σ27)
      else
        am_bd (g_Mo_peek v27 (4) σ27) fun v36 σ36 =>
        g_Mo_readRanges_182 x1 (v20 + v36) σ36
    else
      g_Mo_readRanges_182 x1 v9 σ14
set_option maxHeartbeats 4000000 in
theorem t_Mo_readRanges_0 {x1 : Int32} {σ σ' : am_S} {r : Int32} (h : g_Mo_readRanges x1 σ = some (r, σ')) : am_A S_m M_Mo_readRanges (0, [some (.ref 0), some (.int x1), none, none, none, none, none], [], σ) (am_r S_m (fun q τ => q = some (.int r) ∧ τ = σ')) := by
  unfold g_Mo_readRanges at h
  refine a_aload_n i_Mo_readRanges_0 rfl ?_
  refine a_iload_n i_Mo_readRanges_1 rfl ?_
  refine a_iconst i_Mo_readRanges_2 ?_
  obtain ⟨v4, σ4, e4, h⟩ := am_bd_some h
  refine am_cvd (rest := []) [.int x1, .int 3] c_Mo_readRanges_3 ⟨by decide, _, rfl⟩ rfl (Nat.le_of_ble_eq_true rfl) (t_Mo_has e4) ?_
  by_cases c5 : v4 = 0
  · rw [if_pos c5] at h
    refine a_iff i_Mo_readRanges_6 c5 ?_
    refine a_aload_n i_Mo_readRanges_9 rfl ?_
    refine a_iload_n i_Mo_readRanges_10 rfl ?_
    refine a_iconst i_Mo_readRanges_11 ?_
    obtain ⟨v9, σ9, e9, h⟩ := am_bd_some h
    refine am_cvd (rest := []) [.int x1, .int 1] c_Mo_readRanges_12 ⟨by decide, _, rfl⟩ rfl (Nat.le_of_ble_eq_true rfl) (t_Mo_has e9) ?_
    by_cases c10 : v9 = 0
    · rw [if_pos c10] at h
      refine a_ift i_Mo_readRanges_15 c10 ?_
      exact am_wk (t_Mo_readRanges_27 h) ⟨Or.inl rfl, Or.inl rfl, Or.inl rfl, Or.inl rfl, Or.inl rfl, Or.inl rfl, Or.inl rfl, trivial⟩
    · rw [if_neg c10] at h
      refine a_iff i_Mo_readRanges_15 c10 ?_
      refine a_aload_n i_Mo_readRanges_18 rfl ?_
      refine a_iload_n i_Mo_readRanges_19 rfl ?_
      refine a_iconst i_Mo_readRanges_20 ?_
      obtain ⟨v14, σ14, e14, h⟩ := am_bd_some h
      refine am_cvd (rest := []) [.int x1, .int 2] c_Mo_readRanges_21 ⟨by decide, _, rfl⟩ rfl (Nat.le_of_ble_eq_true rfl) (t_Mo_has e14) ?_
      by_cases c15 : v14 = 0
      · rw [if_pos c15] at h
        refine a_iff i_Mo_readRanges_24 c15 ?_
        exact am_wk (t_Mo_readRanges_27 h) ⟨Or.inl rfl, Or.inl rfl, Or.inl rfl, Or.inl rfl, Or.inl rfl, Or.inl rfl, Or.inl rfl, trivial⟩
      · rw [if_neg c15] at h
        refine a_ift i_Mo_readRanges_24 c15 ?_
        refine a_aload_n i_Mo_readRanges_29 rfl ?_
        refine a_iload_n i_Mo_readRanges_30 rfl ?_
        refine a_iconst i_Mo_readRanges_31 ?_
        obtain ⟨v19, σ19, e19, h⟩ := am_bd_some h
        refine am_cvd (rest := []) [.int x1, .int 1] c_Mo_readRanges_32 ⟨by decide, _, rfl⟩ rfl (Nat.le_of_ble_eq_true rfl) (t_Mo_address e19) ?_
        refine a_istore_n i_Mo_readRanges_35 rfl ?_
        refine a_aload_n i_Mo_readRanges_36 rfl ?_
        refine a_get (v := .long (σ19.1.2 0 37)) i_Mo_readRanges_37 rfl rfl ?_
        refine a_lstore_n i_Mo_readRanges_40 rfl ?_
        refine a_aload_n i_Mo_readRanges_41 rfl ?_
        refine a_iload_n i_Mo_readRanges_42 rfl ?_
        refine a_iconst i_Mo_readRanges_43 ?_
        obtain ⟨v27, σ27, e27, h⟩ := am_bd_some h
        refine am_cvd (rest := []) [.int x1, .int 2] c_Mo_readRanges_44 ⟨by decide, _, rfl⟩ rfl (Nat.le_of_ble_eq_true rfl) (t_Mo_formAt e27) ?_
        obtain ⟨v28, σ28, e28, h⟩ := am_bd_some h
        refine am_csd (rest := []) [.int v27] c_Mo_readRanges_47 rfl (Nat.le_of_ble_eq_true rfl) (t_Mo_isConstant e28) ?_
        by_cases c29 : v28 = 0
        · rw [if_pos c29] at h
          refine a_iff i_Mo_readRanges_50 c29 ?_
          refine a_aload_n i_Mo_readRanges_53 rfl ?_
          refine a_iload_n i_Mo_readRanges_54 rfl ?_
          refine a_iconst i_Mo_readRanges_55 ?_
          obtain ⟨v33, σ33, e33, h⟩ := am_bd_some h
          refine am_cvd (rest := []) [.int x1, .int 2] c_Mo_readRanges_56 ⟨by decide, _, rfl⟩ rfl (Nat.le_of_ble_eq_true rfl) (t_Mo_address e33) ?_
          by_cases c34 : v33 = 0
          · rw [if_pos c34] at h
            refine a_ift i_Mo_readRanges_59 c34 ?_
            refine a_iconst i_Mo_readRanges_66 ?_
            exact t_Mo_readRanges_67 h
          · rw [if_neg c34] at h
            refine a_iff i_Mo_readRanges_59 c34 ?_
            exact t_Mo_readRanges_62 h
        · rw [if_neg c29] at h
          refine a_ift i_Mo_readRanges_50 c29 ?_
          exact t_Mo_readRanges_62 h
  · rw [if_neg c5] at h
    refine a_ift i_Mo_readRanges_6 c5 ?_
    refine a_aload_n i_Mo_readRanges_124 rfl ?_
    refine a_iload_n i_Mo_readRanges_125 rfl ?_
    refine a_iconst i_Mo_readRanges_126 ?_
    obtain ⟨v9, σ9, e9, h⟩ := am_bd_some h
    refine am_cvd (rest := []) [.int x1, .int 3] c_Mo_readRanges_127 ⟨by decide, _, rfl⟩ rfl (Nat.le_of_ble_eq_true rfl) (t_Mo_valueAt e9) ?_
    refine a_lstore_n i_Mo_readRanges_130 rfl ?_
    refine a_aload_n i_Mo_readRanges_131 rfl ?_
    refine a_iload_n i_Mo_readRanges_132 rfl ?_
    refine a_iconst i_Mo_readRanges_133 ?_
    obtain ⟨v14, σ14, e14, h⟩ := am_bd_some h
    refine am_cvd (rest := []) [.int x1, .int 3] c_Mo_readRanges_134 ⟨by decide, _, rfl⟩ rfl (Nat.le_of_ble_eq_true rfl) (t_Mo_formAt e14) ?_
    refine a_bipush i_Mo_readRanges_137 ?_
    by_cases c16 : v14 = 35
    · rw [if_pos c16] at h
      refine a_icf i_Mo_readRanges_139 c16 ?_
      refine a_aload_n i_Mo_readRanges_142 rfl ?_
      refine a_iload_n i_Mo_readRanges_143 rfl ?_
      refine a_bipush i_Mo_readRanges_144 ?_
      obtain ⟨v20, σ20, e20, h⟩ := am_bd_some h
      refine am_cvd (rest := []) [.int x1, .int 10] c_Mo_readRanges_146 ⟨by decide, _, rfl⟩ rfl (Nat.le_of_ble_eq_true rfl) (t_Mo_baseOf e20) ?_
      refine a_lstore i_Mo_readRanges_149 rfl ?_
      refine a_aload_n i_Mo_readRanges_151 rfl ?_
      refine a_bipush i_Mo_readRanges_152 ?_
      refine a_lload i_Mo_readRanges_154 rfl ?_
      refine a_lload_n i_Mo_readRanges_156 rfl ?_
      refine a_iconst i_Mo_readRanges_157 ?_
      obtain ⟨v27, σ27, e27, h⟩ := am_bd_some h
      refine am_cvd (rest := []) [.int 6, .long v20, .long v9, .int 4] c_Mo_readRanges_158 ⟨by decide, _, rfl⟩ rfl (Nat.le_of_ble_eq_true rfl) (t_Mo_indexed e27) ?_
      refine a_istore i_Mo_readRanges_161 rfl ?_
      refine a_iload i_Mo_readRanges_163 rfl ?_
      refine a_iconst i_Mo_readRanges_165 ?_
      by_cases c31 : v27 = (-1)
      · rw [if_pos c31] at h
        refine a_icf i_Mo_readRanges_166 c31 ?_
        refine a_iconst i_Mo_readRanges_169 ?_
        exact am_ret_z ok_Mo_readRanges rfl rfl (Or.inl rfl) (am_lf_i h)
      · rw [if_neg c31] at h
        refine a_ict i_Mo_readRanges_166 c31 ?_
        refine a_lload i_Mo_readRanges_171 rfl ?_
        refine a_aload_n i_Mo_readRanges_173 rfl ?_
        refine a_iload i_Mo_readRanges_174 rfl ?_
        refine a_iconst i_Mo_readRanges_176 ?_
        obtain ⟨v36, σ36, e36, h⟩ := am_bd_some h
        refine am_cvd (rest := [.long v20]) [.int v27, .int 4] c_Mo_readRanges_177 ⟨by decide, _, rfl⟩ rfl (Nat.le_of_ble_eq_true rfl) (t_Mo_peek e36) ?_
        refine a_ladd i_Mo_readRanges_180 ?_
        refine a_lstore_n i_Mo_readRanges_181 rfl ?_
        exact am_wk (t_Mo_readRanges_182 h) ⟨Or.inr rfl, Or.inr rfl, Or.inr rfl, Or.inl rfl, Or.inl rfl, Or.inl rfl, Or.inl rfl, trivial⟩
    · rw [if_neg c16] at h
      refine a_ict i_Mo_readRanges_139 c16 ?_
      exact t_Mo_readRanges_182 h
theorem t_Mo_readRanges {x1 : Int32} {σ σ' : am_S} {r : Int32} (h : g_Mo_readRanges x1 σ = some (r, σ')) : am_Mt S_m M_Mo_readRanges [.ref 0, .int x1] σ (fun q τ => q = some (.int r) ∧ τ = σ') :=
  am_M_of ok_Mo_readRanges (Nat.le_of_ble_eq_true rfl) (t_Mo_readRanges_0 h)
def g_Mo_readValues_101 (go : Int32 → Int32 → am_S → Option (Int32 × am_S)) (x2 : Int32) (y0 : Int32) (σ : am_S) : Option (Int32 × am_S) :=
  go y0 (x2 + 1) σ
set_option maxHeartbeats 4000000 in
theorem t_Mo_readValues_101 {x2 : Int32} {y0 : Int32} {σ σ' : am_S} {r : Int32} {go : Int32 → Int32 → am_S → Option (Int32 × am_S)} (hgo : ∀ {x1 : Int32} {x2 : Int32} {σ σ' : am_S} {r : Int32}, go x1 x2 σ = some (r, σ') → am_A S_m M_Mo_readValues (4, [some (.ref 0), some (.int x1), some (.int x2), none], [], σ) (am_r S_m (fun q τ => q = some (.int r) ∧ τ = σ'))) (h : g_Mo_readValues_101 go x2 y0 σ = some (r, σ')) : am_A S_m M_Mo_readValues (101, [some (.ref 0), none, some (.int x2), none], [.int y0], σ) (am_r S_m (fun q τ => q = some (.int r) ∧ τ = σ')) := by
  unfold g_Mo_readValues_101 at h
  refine a_istore_n i_Mo_readValues_101 rfl ?_
  refine a_iinc i_Mo_readValues_102 rfl rfl ?_
  refine a_goto i_Mo_readValues_105 ?_
  exact hgo h
def g_Mo_readValues_96 (go : Int32 → Int32 → am_S → Option (Int32 × am_S)) (x2 : Int32) (σ : am_S) : Option (Int32 × am_S) :=
  g_Mo_readValues_101 go x2 (1) σ
set_option maxHeartbeats 4000000 in
theorem t_Mo_readValues_96 {x2 : Int32} {σ σ' : am_S} {r : Int32} {go : Int32 → Int32 → am_S → Option (Int32 × am_S)} (hgo : ∀ {x1 : Int32} {x2 : Int32} {σ σ' : am_S} {r : Int32}, go x1 x2 σ = some (r, σ') → am_A S_m M_Mo_readValues (4, [some (.ref 0), some (.int x1), some (.int x2), none], [], σ) (am_r S_m (fun q τ => q = some (.int r) ∧ τ = σ'))) (h : g_Mo_readValues_96 go x2 σ = some (r, σ')) : am_A S_m M_Mo_readValues (96, [some (.ref 0), none, some (.int x2), none], [], σ) (am_r S_m (fun q τ => q = some (.int r) ∧ τ = σ')) := by
  unfold g_Mo_readValues_96 at h
  refine a_iconst i_Mo_readValues_96 ?_
  refine a_goto i_Mo_readValues_97 ?_
  exact t_Mo_readValues_101 hgo h
def g_Mo_readValues_100 (go : Int32 → Int32 → am_S → Option (Int32 × am_S)) (x2 : Int32) (σ : am_S) : Option (Int32 × am_S) :=
  g_Mo_readValues_101 go x2 (0) σ
set_option maxHeartbeats 4000000 in
theorem t_Mo_readValues_100 {x2 : Int32} {σ σ' : am_S} {r : Int32} {go : Int32 → Int32 → am_S → Option (Int32 × am_S)} (hgo : ∀ {x1 : Int32} {x2 : Int32} {σ σ' : am_S} {r : Int32}, go x1 x2 σ = some (r, σ') → am_A S_m M_Mo_readValues (4, [some (.ref 0), some (.int x1), some (.int x2), none], [], σ) (am_r S_m (fun q τ => q = some (.int r) ∧ τ = σ'))) (h : g_Mo_readValues_100 go x2 σ = some (r, σ')) : am_A S_m M_Mo_readValues (100, [some (.ref 0), none, some (.int x2), none], [], σ) (am_r S_m (fun q τ => q = some (.int r) ∧ τ = σ')) := by
  unfold g_Mo_readValues_100 at h
  refine a_iconst i_Mo_readValues_100 ?_
  exact t_Mo_readValues_101 hgo h
def g_Mo_readValues_75 (go : Int32 → Int32 → am_S → Option (Int32 × am_S)) (x2 : Int32) (y0 : Int32) (σ : am_S) : Option (Int32 × am_S) :=
  if y0 = 0 then
    g_Mo_readValues_96 go x2 σ
  else
    am_bd (g_Mo_isRight x2 σ) fun v6 σ6 =>
    if v6 = 0 then
      g_Mo_readValues_100 go x2 σ6
    else
      am_bd (g_Mo_readRanges x2 σ6) fun v10 σ10 =>
      if v10 = 0 then
        g_Mo_readValues_100 go x2 σ10
      else
        g_Mo_readValues_96 go x2 σ10
set_option maxHeartbeats 4000000 in
theorem t_Mo_readValues_75 {x2 : Int32} {y0 : Int32} {σ σ' : am_S} {r : Int32} {go : Int32 → Int32 → am_S → Option (Int32 × am_S)} (hgo : ∀ {x1 : Int32} {x2 : Int32} {σ σ' : am_S} {r : Int32}, go x1 x2 σ = some (r, σ') → am_A S_m M_Mo_readValues (4, [some (.ref 0), some (.int x1), some (.int x2), none], [], σ) (am_r S_m (fun q τ => q = some (.int r) ∧ τ = σ'))) (h : g_Mo_readValues_75 go x2 y0 σ = some (r, σ')) : am_A S_m M_Mo_readValues (75, [some (.ref 0), none, some (.int x2), none], [.int y0], σ) (am_r S_m (fun q τ => q = some (.int r) ∧ τ = σ')) := by
  unfold g_Mo_readValues_75 at h
  refine a_istore_n i_Mo_readValues_75 rfl ?_
  refine a_iload_n i_Mo_readValues_76 rfl ?_
  by_cases c3 : y0 = 0
  · rw [if_pos c3] at h
    refine a_ift i_Mo_readValues_77 c3 ?_
    exact am_wk (t_Mo_readValues_96 hgo h) ⟨Or.inr rfl, Or.inl rfl, Or.inr rfl, Or.inl rfl, trivial⟩
  · rw [if_neg c3] at h
    refine a_iff i_Mo_readValues_77 c3 ?_
    refine a_aload_n i_Mo_readValues_80 rfl ?_
    refine a_iload_n i_Mo_readValues_81 rfl ?_
    obtain ⟨v6, σ6, e6, h⟩ := am_bd_some h
    refine am_cvd (rest := []) [.int x2] c_Mo_readValues_82 ⟨by decide, _, rfl⟩ rfl (Nat.le_of_ble_eq_true rfl) (t_Mo_isRight e6) ?_
    by_cases c7 : v6 = 0
    · rw [if_pos c7] at h
      refine a_ift i_Mo_readValues_85 c7 ?_
      exact am_wk (t_Mo_readValues_100 hgo h) ⟨Or.inr rfl, Or.inl rfl, Or.inr rfl, Or.inl rfl, trivial⟩
    · rw [if_neg c7] at h
      refine a_iff i_Mo_readValues_85 c7 ?_
      refine a_aload_n i_Mo_readValues_88 rfl ?_
      refine a_iload_n i_Mo_readValues_89 rfl ?_
      obtain ⟨v10, σ10, e10, h⟩ := am_bd_some h
      refine am_cvd (rest := []) [.int x2] c_Mo_readValues_90 ⟨by decide, _, rfl⟩ rfl (Nat.le_of_ble_eq_true rfl) (t_Mo_readRanges e10) ?_
      by_cases c11 : v10 = 0
      · rw [if_pos c11] at h
        refine a_ift i_Mo_readValues_93 c11 ?_
        exact am_wk (t_Mo_readValues_100 hgo h) ⟨Or.inr rfl, Or.inl rfl, Or.inr rfl, Or.inl rfl, trivial⟩
      · rw [if_neg c11] at h
        refine a_iff i_Mo_readValues_93 c11 ?_
        exact am_wk (t_Mo_readValues_96 hgo h) ⟨Or.inr rfl, Or.inl rfl, Or.inr rfl, Or.inl rfl, trivial⟩
def g_Mo_readValues_70 (go : Int32 → Int32 → am_S → Option (Int32 × am_S)) (x2 : Int32) (σ : am_S) : Option (Int32 × am_S) :=
  g_Mo_readValues_75 go x2 (1) σ
set_option maxHeartbeats 4000000 in
theorem t_Mo_readValues_70 {x2 : Int32} {σ σ' : am_S} {r : Int32} {go : Int32 → Int32 → am_S → Option (Int32 × am_S)} (hgo : ∀ {x1 : Int32} {x2 : Int32} {σ σ' : am_S} {r : Int32}, go x1 x2 σ = some (r, σ') → am_A S_m M_Mo_readValues (4, [some (.ref 0), some (.int x1), some (.int x2), none], [], σ) (am_r S_m (fun q τ => q = some (.int r) ∧ τ = σ'))) (h : g_Mo_readValues_70 go x2 σ = some (r, σ')) : am_A S_m M_Mo_readValues (70, [some (.ref 0), none, some (.int x2), none], [], σ) (am_r S_m (fun q τ => q = some (.int r) ∧ τ = σ')) := by
  unfold g_Mo_readValues_70 at h
  refine a_iconst i_Mo_readValues_70 ?_
  refine a_goto i_Mo_readValues_71 ?_
  exact t_Mo_readValues_75 hgo h
def g_Mo_readValues_108 (x1 : Int32) (σ : am_S) : Option (Int32 × am_S) :=
  am_gd (inb (σ.1.1 0 22) 201) <|
  am_gd (z01 x1) <|
  some (x1, am_ai σ 22 (σ.1.1 0 22).toNatClampNeg (σ.1.1 0 33))
set_option maxHeartbeats 4000000 in
theorem t_Mo_readValues_108 {x1 : Int32} {σ σ' : am_S} {r : Int32} (h : g_Mo_readValues_108 x1 σ = some (r, σ')) : am_A S_m M_Mo_readValues (108, [some (.ref 0), some (.int x1), none, none], [], σ) (am_r S_m (fun q τ => q = some (.int r) ∧ τ = σ')) := by
  unfold g_Mo_readValues_108 at h
  refine a_aload_n i_Mo_readValues_108 rfl ?_
  refine a_get (v := .ref 22) i_Mo_readValues_109 rfl rfl ?_
  refine a_aload_n i_Mo_readValues_112 rfl ?_
  refine a_get (v := .int (σ.1.1 0 22)) i_Mo_readValues_113 rfl rfl ?_
  refine a_aload_n i_Mo_readValues_116 rfl ?_
  refine a_get (v := .int (σ.1.1 0 33)) i_Mo_readValues_117 rfl rfl ?_
  obtain ⟨c7, h⟩ := gd_some h
  refine a_ias (n := 201) i_Mo_readValues_120 rfl rfl (inb_in c7) ?_
  refine a_iload_n i_Mo_readValues_121 rfl ?_
  obtain ⟨c9, h⟩ := gd_some h
  exact am_ret_z ok_Mo_readValues rfl rfl (z01_or c9) (am_lf_i h)
def g_Mo_readValues_4 : Nat → Int32 → Int32 → am_S → Option (Int32 × am_S)
  | 0, _, _, _ => none
  | n + 1, x1, x2, σ =>
  if x2 < (σ.1.1 0 22) then
    if x1 = 0 then
      g_Mo_readValues_108 x1 σ
    else
      am_gd (inb x2 201) <|
      am_gd (inb x2 200) <|
      if ((am_ai σ 22 x2.toNatClampNeg (σ.1.1 0 33)).2.1 17 x2.toNatClampNeg) = 17 then
        g_Mo_readValues_70 (g_Mo_readValues_4 n) x2 (am_ai σ 22 x2.toNatClampNeg (σ.1.1 0 33))
      else
        am_gd (inb x2 200) <|
        if ((am_ai σ 22 x2.toNatClampNeg (σ.1.1 0 33)).2.1 17 x2.toNatClampNeg) = 46 then
          g_Mo_readValues_70 (g_Mo_readValues_4 n) x2 (am_ai σ 22 x2.toNatClampNeg (σ.1.1 0 33))
        else
          am_gd (inb x2 200) <|
          if ((am_ai σ 22 x2.toNatClampNeg (σ.1.1 0 33)).2.1 17 x2.toNatClampNeg) = 29 then
            g_Mo_readValues_70 (g_Mo_readValues_4 n) x2 (am_ai σ 22 x2.toNatClampNeg (σ.1.1 0 33))
          else
            am_gd (inb x2 200) <|
            if ((am_ai σ 22 x2.toNatClampNeg (σ.1.1 0 33)).2.1 17 x2.toNatClampNeg) = 11 then
              g_Mo_readValues_70 (g_Mo_readValues_4 n) x2 (am_ai σ 22 x2.toNatClampNeg (σ.1.1 0 33))
            else
              g_Mo_readValues_75 (g_Mo_readValues_4 n) x2 (0) (am_ai σ 22 x2.toNatClampNeg (σ.1.1 0 33))
  else
    g_Mo_readValues_108 x1 σ
set_option maxHeartbeats 4000000 in
theorem t_Mo_readValues_4 : ∀ (n : Nat) {x1 : Int32} {x2 : Int32} {σ σ' : am_S} {r : Int32} (h : g_Mo_readValues_4 n x1 x2 σ = some (r, σ')), am_A S_m M_Mo_readValues (4, [some (.ref 0), some (.int x1), some (.int x2), none], [], σ) (am_r S_m (fun q τ => q = some (.int r) ∧ τ = σ')) := by
  intro n
  induction n with
  | zero =>
    intro x1 x2 σ σ' r h
    cases h
  | succ n ih =>
  intro x1 x2 σ σ' r h
  unfold g_Mo_readValues_4 at h
  refine a_iload_n i_Mo_readValues_4 rfl ?_
  refine a_aload_n i_Mo_readValues_5 rfl ?_
  refine a_get (v := .int (σ.1.1 0 22)) i_Mo_readValues_6 rfl rfl ?_
  by_cases c4 : x2 < (σ.1.1 0 22)
  · rw [if_pos c4] at h
    refine a_icf i_Mo_readValues_9 (Int32.not_le.mpr c4) ?_
    refine a_iload_n i_Mo_readValues_12 rfl ?_
    by_cases c6 : x1 = 0
    · rw [if_pos c6] at h
      refine a_ift i_Mo_readValues_13 c6 ?_
      exact am_wk (t_Mo_readValues_108 h) ⟨Or.inr rfl, Or.inr rfl, Or.inl rfl, Or.inl rfl, trivial⟩
    · rw [if_neg c6] at h
      refine a_iff i_Mo_readValues_13 c6 ?_
      refine a_aload_n i_Mo_readValues_16 rfl ?_
      refine a_get (v := .ref 22) i_Mo_readValues_17 rfl rfl ?_
      refine a_iload_n i_Mo_readValues_20 rfl ?_
      refine a_aload_n i_Mo_readValues_21 rfl ?_
      refine a_get (v := .int (σ.1.1 0 33)) i_Mo_readValues_22 rfl rfl ?_
      obtain ⟨c12, h⟩ := gd_some h
      refine a_ias (n := 201) i_Mo_readValues_25 rfl rfl (inb_in c12) ?_
      refine a_aload_n i_Mo_readValues_26 rfl ?_
      refine a_get (v := .ref 17) i_Mo_readValues_27 rfl rfl ?_
      refine a_iload_n i_Mo_readValues_30 rfl ?_
      obtain ⟨c16, h⟩ := gd_some h
      refine a_ial (n := 200) i_Mo_readValues_31 (by decide) rfl rfl (inb_in c16) ?_
      refine a_bipush i_Mo_readValues_32 ?_
      by_cases c18 : ((am_ai σ 22 x2.toNatClampNeg (σ.1.1 0 33)).2.1 17 x2.toNatClampNeg) = 17
      · rw [if_pos c18] at h
        refine a_ict i_Mo_readValues_34 c18 ?_
        exact am_wk (t_Mo_readValues_70 (fun h => ih h) h) ⟨Or.inr rfl, Or.inl rfl, Or.inr rfl, Or.inl rfl, trivial⟩
      · rw [if_neg c18] at h
        refine a_icf i_Mo_readValues_34 c18 ?_
        refine a_aload_n i_Mo_readValues_37 rfl ?_
        refine a_get (v := .ref 17) i_Mo_readValues_38 rfl rfl ?_
        refine a_iload_n i_Mo_readValues_41 rfl ?_
        obtain ⟨c22, h⟩ := gd_some h
        refine a_ial (n := 200) i_Mo_readValues_42 (by decide) rfl rfl (inb_in c22) ?_
        refine a_bipush i_Mo_readValues_43 ?_
        by_cases c24 : ((am_ai σ 22 x2.toNatClampNeg (σ.1.1 0 33)).2.1 17 x2.toNatClampNeg) = 46
        · rw [if_pos c24] at h
          refine a_ict i_Mo_readValues_45 c24 ?_
          exact am_wk (t_Mo_readValues_70 (fun h => ih h) h) ⟨Or.inr rfl, Or.inl rfl, Or.inr rfl, Or.inl rfl, trivial⟩
        · rw [if_neg c24] at h
          refine a_icf i_Mo_readValues_45 c24 ?_
          refine a_aload_n i_Mo_readValues_48 rfl ?_
          refine a_get (v := .ref 17) i_Mo_readValues_49 rfl rfl ?_
          refine a_iload_n i_Mo_readValues_52 rfl ?_
          obtain ⟨c28, h⟩ := gd_some h
          refine a_ial (n := 200) i_Mo_readValues_53 (by decide) rfl rfl (inb_in c28) ?_
          refine a_bipush i_Mo_readValues_54 ?_
          by_cases c30 : ((am_ai σ 22 x2.toNatClampNeg (σ.1.1 0 33)).2.1 17 x2.toNatClampNeg) = 29
          · rw [if_pos c30] at h
            refine a_ict i_Mo_readValues_56 c30 ?_
            exact am_wk (t_Mo_readValues_70 (fun h => ih h) h) ⟨Or.inr rfl, Or.inl rfl, Or.inr rfl, Or.inl rfl, trivial⟩
          · rw [if_neg c30] at h
            refine a_icf i_Mo_readValues_56 c30 ?_
            refine a_aload_n i_Mo_readValues_59 rfl ?_
            refine a_get (v := .ref 17) i_Mo_readValues_60 rfl rfl ?_
            refine a_iload_n i_Mo_readValues_63 rfl ?_
            obtain ⟨c34, h⟩ := gd_some h
            refine a_ial (n := 200) i_Mo_readValues_64 (by decide) rfl rfl (inb_in c34) ?_
            refine a_bipush i_Mo_readValues_65 ?_
            by_cases c36 : ((am_ai σ 22 x2.toNatClampNeg (σ.1.1 0 33)).2.1 17 x2.toNatClampNeg) = 11
            · rw [if_pos c36] at h
              refine a_icf i_Mo_readValues_67 c36 ?_
              exact am_wk (t_Mo_readValues_70 (fun h => ih h) h) ⟨Or.inr rfl, Or.inl rfl, Or.inr rfl, Or.inl rfl, trivial⟩
            · rw [if_neg c36] at h
              refine a_ict i_Mo_readValues_67 c36 ?_
              refine a_iconst i_Mo_readValues_74 ?_
              exact am_wk (t_Mo_readValues_75 (fun h => ih h) h) ⟨Or.inr rfl, Or.inl rfl, Or.inr rfl, Or.inl rfl, trivial⟩
  · rw [if_neg c4] at h
    refine a_ict i_Mo_readValues_9 (Int32.not_lt.mp c4) ?_
    exact am_wk (t_Mo_readValues_108 h) ⟨Or.inr rfl, Or.inr rfl, Or.inl rfl, Or.inl rfl, trivial⟩
def g_Mo_readValues (σ : am_S) : Option (Int32 × am_S) :=
  g_Mo_readValues_4 4000 (1) (0) σ
set_option maxHeartbeats 4000000 in
theorem t_Mo_readValues_0 {σ σ' : am_S} {r : Int32} (h : g_Mo_readValues σ = some (r, σ')) : am_A S_m M_Mo_readValues (0, [some (.ref 0), none, none, none], [], σ) (am_r S_m (fun q τ => q = some (.int r) ∧ τ = σ')) := by
  unfold g_Mo_readValues at h
  refine a_iconst i_Mo_readValues_0 ?_
  refine a_istore_n i_Mo_readValues_1 rfl ?_
  refine a_iconst i_Mo_readValues_2 ?_
  refine a_istore_n i_Mo_readValues_3 rfl ?_
  exact t_Mo_readValues_4 4000 h
theorem t_Mo_readValues {σ σ' : am_S} {r : Int32} (h : g_Mo_readValues σ = some (r, σ')) : am_Mt S_m M_Mo_readValues [.ref 0] σ (fun q τ => q = some (.int r) ∧ τ = σ') :=
  am_M_of ok_Mo_readValues (Nat.le_of_ble_eq_true rfl) (t_Mo_readValues_0 h)
def g_Mo_begin (σ : am_S) : Option (Unit × am_S) :=
  some ((), am_fi (am_fl (am_fl σ 0 47 0) 0 48 1) 0 49 1)
set_option maxHeartbeats 4000000 in
theorem t_Mo_begin_0 {σ σ' : am_S} {r : Unit} (h : g_Mo_begin σ = some (r, σ')) : am_A S_m M_Mo_begin (0, [some (.ref 0)], [], σ) (am_r S_m (fun q τ => q = none ∧ τ = σ')) := by
  unfold g_Mo_begin at h
  refine a_aload_n i_Mo_begin_0 rfl ?_
  refine a_lconst i_Mo_begin_1 ?_
  refine a_putl i_Mo_begin_2 rfl ?_
  refine a_aload_n i_Mo_begin_5 rfl ?_
  refine a_lconst i_Mo_begin_6 ?_
  refine a_putl i_Mo_begin_7 rfl ?_
  refine a_aload_n i_Mo_begin_10 rfl ?_
  refine a_iconst i_Mo_begin_11 ?_
  refine a_puti i_Mo_begin_12 rfl trivial ?_
  exact am_ret_v ok_Mo_begin rfl rfl (am_lf_v h)
theorem t_Mo_begin {σ σ' : am_S} {r : Unit} (h : g_Mo_begin σ = some (r, σ')) : am_Mt S_m M_Mo_begin [.ref 0] σ (fun q τ => q = none ∧ τ = σ') :=
  am_M_of ok_Mo_begin (Nat.le_of_ble_eq_true rfl) (t_Mo_begin_0 h)
def g_Mo_row (x1 : Int32) (σ : am_S) : Option (Int32 × am_S) :=
  if (σ.1.1 0 38) = 400 then
    some (0, σ)
  else
    am_gd (inb (σ.1.1 0 38) 400) <|
    am_gd (inb (σ.1.1 0 38) 400) <|
    am_gd (inb (σ.1.1 0 38) 400) <|
    am_gd (inb (σ.1.1 0 38) 400) <|
    some (1, am_fi (am_ai (am_ai (am_al (am_al σ 30 (σ.1.1 0 38).toNatClampNeg (σ.1.2 0 47)) 31 (σ.1.1 0 38).toNatClampNeg (σ.1.2 0 48)) 27 (σ.1.1 0 38).toNatClampNeg (σ.1.1 0 49)) 32 (σ.1.1 0 38).toNatClampNeg (vp_nar .boolean x1)) 0 38 ((σ.1.1 0 38) + 1))
set_option maxHeartbeats 4000000 in
theorem t_Mo_row_0 {x1 : Int32} {σ σ' : am_S} {r : Int32} (h : g_Mo_row x1 σ = some (r, σ')) : am_A S_m M_Mo_row (0, [some (.ref 0), some (.int x1)], [], σ) (am_r S_m (fun q τ => q = some (.int r) ∧ τ = σ')) := by
  unfold g_Mo_row at h
  refine a_aload_n i_Mo_row_0 rfl ?_
  refine a_get (v := .int (σ.1.1 0 38)) i_Mo_row_1 rfl rfl ?_
  refine a_sipush i_Mo_row_4 ?_
  by_cases c4 : (σ.1.1 0 38) = 400
  · rw [if_pos c4] at h
    refine a_icf i_Mo_row_7 c4 ?_
    refine a_iconst i_Mo_row_10 ?_
    exact am_ret_z ok_Mo_row rfl rfl (Or.inl rfl) (am_lf_i h)
  · rw [if_neg c4] at h
    refine a_ict i_Mo_row_7 c4 ?_
    refine a_aload_n i_Mo_row_12 rfl ?_
    refine a_get (v := .ref 30) i_Mo_row_13 rfl rfl ?_
    refine a_aload_n i_Mo_row_16 rfl ?_
    refine a_get (v := .int (σ.1.1 0 38)) i_Mo_row_17 rfl rfl ?_
    refine a_aload_n i_Mo_row_20 rfl ?_
    refine a_get (v := .long (σ.1.2 0 47)) i_Mo_row_21 rfl rfl ?_
    obtain ⟨c11, h⟩ := gd_some h
    refine a_las (n := 400) i_Mo_row_24 rfl rfl (inb_in c11) ?_
    refine a_aload_n i_Mo_row_25 rfl ?_
    refine a_get (v := .ref 31) i_Mo_row_26 rfl rfl ?_
    refine a_aload_n i_Mo_row_29 rfl ?_
    refine a_get (v := .int (σ.1.1 0 38)) i_Mo_row_30 rfl rfl ?_
    refine a_aload_n i_Mo_row_33 rfl ?_
    refine a_get (v := .long (σ.1.2 0 48)) i_Mo_row_34 rfl rfl ?_
    obtain ⟨c18, h⟩ := gd_some h
    refine a_las (n := 400) i_Mo_row_37 rfl rfl (inb_in c18) ?_
    refine a_aload_n i_Mo_row_38 rfl ?_
    refine a_get (v := .ref 27) i_Mo_row_39 rfl rfl ?_
    refine a_aload_n i_Mo_row_42 rfl ?_
    refine a_get (v := .int (σ.1.1 0 38)) i_Mo_row_43 rfl rfl ?_
    refine a_aload_n i_Mo_row_46 rfl ?_
    refine a_get (v := .int (σ.1.1 0 49)) i_Mo_row_47 rfl rfl ?_
    obtain ⟨c25, h⟩ := gd_some h
    refine a_ias (n := 400) i_Mo_row_50 rfl rfl (inb_in c25) ?_
    refine a_aload_n i_Mo_row_51 rfl ?_
    refine a_get (v := .ref 32) i_Mo_row_52 rfl rfl ?_
    refine a_aload_n i_Mo_row_55 rfl ?_
    refine a_get (v := .int (σ.1.1 0 38)) i_Mo_row_56 rfl rfl ?_
    refine a_iload_n i_Mo_row_59 rfl ?_
    obtain ⟨c31, h⟩ := gd_some h
    refine a_bas (n := 400) i_Mo_row_60 rfl rfl (inb_in c31) ?_
    refine a_aload_n i_Mo_row_61 rfl ?_
    refine a_dup_a i_Mo_row_62 ?_
    refine a_get (v := .int (σ.1.1 0 38)) i_Mo_row_63 rfl rfl ?_
    refine a_iconst i_Mo_row_66 ?_
    refine a_iadd i_Mo_row_67 ?_
    refine a_puti i_Mo_row_68 rfl trivial ?_
    refine a_iconst i_Mo_row_71 ?_
    exact am_ret_z ok_Mo_row rfl rfl (Or.inr rfl) (am_lf_i h)
theorem t_Mo_row {x1 : Int32} {σ σ' : am_S} {r : Int32} (h : g_Mo_row x1 σ = some (r, σ')) : am_Mt S_m M_Mo_row [.ref 0, .int x1] σ (fun q τ => q = some (.int r) ∧ τ = σ') :=
  am_M_of ok_Mo_row (Nat.le_of_ble_eq_true rfl) (t_Mo_row_0 h)
def g_Mo_readWhats_105 (σ : am_S) : Option (Int32 × am_S) :=
  some ((-2), σ)
set_option maxHeartbeats 4000000 in
theorem t_Mo_readWhats_105 {σ σ' : am_S} {r : Int32} (h : g_Mo_readWhats_105 σ = some (r, σ')) : am_A S_m M_Mo_readWhats (105, [none, none, none, none, none, none, none, none], [], σ) (am_r S_m (fun q τ => q = some (.int r) ∧ τ = σ')) := by
  unfold g_Mo_readWhats_105 at h
  refine a_bipush i_Mo_readWhats_105 ?_
  exact am_ret_i ok_Mo_readWhats rfl rfl (am_lf_i h)
def g_Mo_readWhats_134 (go : Int32 → Int32 → Int32 → am_S → Option (Int32 × am_S)) (x1 : Int32) (x3 : Int32) (y0 : Int32) (σ : am_S) : Option (Int32 × am_S) :=
  go x1 y0 (x3 + 1) σ
set_option maxHeartbeats 4000000 in
theorem t_Mo_readWhats_134 {x1 : Int32} {x3 : Int32} {y0 : Int32} {σ σ' : am_S} {r : Int32} {go : Int32 → Int32 → Int32 → am_S → Option (Int32 × am_S)} (hgo : ∀ {x1 : Int32} {x2 : Int32} {x3 : Int32} {σ σ' : am_S} {r : Int32}, go x1 x2 x3 σ = some (r, σ') → am_A S_m M_Mo_readWhats (4, [some (.ref 0), some (.int x1), some (.int x2), some (.int x3), none, none, none, none], [], σ) (am_r S_m (fun q τ => q = some (.int r) ∧ τ = σ'))) (h : g_Mo_readWhats_134 go x1 x3 y0 σ = some (r, σ')) : am_A S_m M_Mo_readWhats (134, [some (.ref 0), some (.int x1), none, some (.int x3), none, none, none, none], [.int y0], σ) (am_r S_m (fun q τ => q = some (.int r) ∧ τ = σ')) := by
  unfold g_Mo_readWhats_134 at h
  refine a_istore_n i_Mo_readWhats_134 rfl ?_
  refine a_iinc i_Mo_readWhats_135 rfl rfl ?_
  refine a_goto i_Mo_readWhats_138 ?_
  exact hgo h
def g_Mo_readWhats_133 (go : Int32 → Int32 → Int32 → am_S → Option (Int32 × am_S)) (x1 : Int32) (x2 : Int32) (x3 : Int32) (σ : am_S) : Option (Int32 × am_S) :=
  g_Mo_readWhats_134 go x1 x3 x2 σ
set_option maxHeartbeats 4000000 in
theorem t_Mo_readWhats_133 {x1 : Int32} {x2 : Int32} {x3 : Int32} {σ σ' : am_S} {r : Int32} {go : Int32 → Int32 → Int32 → am_S → Option (Int32 × am_S)} (hgo : ∀ {x1 : Int32} {x2 : Int32} {x3 : Int32} {σ σ' : am_S} {r : Int32}, go x1 x2 x3 σ = some (r, σ') → am_A S_m M_Mo_readWhats (4, [some (.ref 0), some (.int x1), some (.int x2), some (.int x3), none, none, none, none], [], σ) (am_r S_m (fun q τ => q = some (.int r) ∧ τ = σ'))) (h : g_Mo_readWhats_133 go x1 x2 x3 σ = some (r, σ')) : am_A S_m M_Mo_readWhats (133, [some (.ref 0), some (.int x1), some (.int x2), some (.int x3), none, none, none, none], [], σ) (am_r S_m (fun q τ => q = some (.int r) ∧ τ = σ')) := by
  unfold g_Mo_readWhats_133 at h
  refine a_iload_n i_Mo_readWhats_133 rfl ?_
  exact am_wk (t_Mo_readWhats_134 hgo h) ⟨Or.inr rfl, Or.inr rfl, Or.inl rfl, Or.inr rfl, Or.inl rfl, Or.inl rfl, Or.inl rfl, Or.inl rfl, trivial⟩
def g_Mo_readWhats_108 (go : Int32 → Int32 → Int32 → am_S → Option (Int32 × am_S)) (x1 : Int32) (x2 : Int32) (x3 : Int32) (x4 : Int64) (x6 : Int64) (σ : am_S) : Option (Int32 × am_S) :=
  am_gd (inb x3 6) <|
  if (lg_cmp x4 1) = 0 then
    if x2 = (-1) then
      g_Mo_readWhats_134 go x1 x3 x3 (am_ai σ 29 x3.toNatClampNeg x6.toInt32)
    else
      g_Mo_readWhats_133 go x1 x2 x3 (am_ai σ 29 x3.toNatClampNeg x6.toInt32)
  else
    g_Mo_readWhats_133 go x1 x2 x3 (am_ai σ 29 x3.toNatClampNeg x6.toInt32)
set_option maxHeartbeats 4000000 in
theorem t_Mo_readWhats_108 {x1 : Int32} {x2 : Int32} {x3 : Int32} {x4 : Int64} {x6 : Int64} {σ σ' : am_S} {r : Int32} {go : Int32 → Int32 → Int32 → am_S → Option (Int32 × am_S)} (hgo : ∀ {x1 : Int32} {x2 : Int32} {x3 : Int32} {σ σ' : am_S} {r : Int32}, go x1 x2 x3 σ = some (r, σ') → am_A S_m M_Mo_readWhats (4, [some (.ref 0), some (.int x1), some (.int x2), some (.int x3), none, none, none, none], [], σ) (am_r S_m (fun q τ => q = some (.int r) ∧ τ = σ'))) (h : g_Mo_readWhats_108 go x1 x2 x3 x4 x6 σ = some (r, σ')) : am_A S_m M_Mo_readWhats (108, [some (.ref 0), some (.int x1), some (.int x2), some (.int x3), some (.long x4), none, some (.long x6), none], [], σ) (am_r S_m (fun q τ => q = some (.int r) ∧ τ = σ')) := by
  unfold g_Mo_readWhats_108 at h
  refine a_aload_n i_Mo_readWhats_108 rfl ?_
  refine a_get (v := .ref 29) i_Mo_readWhats_109 rfl rfl ?_
  refine a_iload_n i_Mo_readWhats_112 rfl ?_
  refine a_lload i_Mo_readWhats_113 rfl ?_
  refine a_l2i i_Mo_readWhats_115 ?_
  obtain ⟨c6, h⟩ := gd_some h
  refine a_ias (n := 6) i_Mo_readWhats_116 rfl rfl (inb_in c6) ?_
  refine a_lload i_Mo_readWhats_117 rfl ?_
  refine a_lconst i_Mo_readWhats_119 ?_
  refine a_lcmp i_Mo_readWhats_120 ?_
  by_cases c10 : (lg_cmp x4 1) = 0
  · rw [if_pos c10] at h
    refine a_iff i_Mo_readWhats_121 c10 ?_
    refine a_iload_n i_Mo_readWhats_124 rfl ?_
    refine a_iconst i_Mo_readWhats_125 ?_
    by_cases c13 : x2 = (-1)
    · rw [if_pos c13] at h
      refine a_icf i_Mo_readWhats_126 c13 ?_
      refine a_iload_n i_Mo_readWhats_129 rfl ?_
      refine a_goto i_Mo_readWhats_130 ?_
      exact am_wk (t_Mo_readWhats_134 hgo h) ⟨Or.inr rfl, Or.inr rfl, Or.inl rfl, Or.inr rfl, Or.inl rfl, Or.inl rfl, Or.inl rfl, Or.inl rfl, trivial⟩
    · rw [if_neg c13] at h
      refine a_ict i_Mo_readWhats_126 c13 ?_
      exact am_wk (t_Mo_readWhats_133 hgo h) ⟨Or.inr rfl, Or.inr rfl, Or.inr rfl, Or.inr rfl, Or.inl rfl, Or.inl rfl, Or.inl rfl, Or.inl rfl, trivial⟩
  · rw [if_neg c10] at h
    refine a_ift i_Mo_readWhats_121 c10 ?_
    exact am_wk (t_Mo_readWhats_133 hgo h) ⟨Or.inr rfl, Or.inr rfl, Or.inr rfl, Or.inr rfl, Or.inl rfl, Or.inl rfl, Or.inl rfl, Or.inl rfl, trivial⟩
def g_Mo_readWhats_75 (go : Int32 → Int32 → Int32 → am_S → Option (Int32 × am_S)) (x1 : Int32) (x2 : Int32) (x3 : Int32) (x4 : Int64) (x6 : Int64) (σ : am_S) : Option (Int32 × am_S) :=
  if (lg_cmp x4 1) = 0 then
    if x2 = (-1) then
      if (lg_cmp x6 8) = 0 then
        g_Mo_readWhats_108 go x1 x2 x3 x4 x6 σ
      else
        if (lg_cmp x6 31) = 0 then
          g_Mo_readWhats_108 go x1 x2 x3 x4 x6 σ
        else
          g_Mo_readWhats_105 σ
    else
      g_Mo_readWhats_108 go x1 x2 x3 x4 x6 σ
  else
    g_Mo_readWhats_108 go x1 x2 x3 x4 x6 σ
set_option maxHeartbeats 4000000 in
theorem t_Mo_readWhats_75 {x1 : Int32} {x2 : Int32} {x3 : Int32} {x4 : Int64} {x6 : Int64} {σ σ' : am_S} {r : Int32} {go : Int32 → Int32 → Int32 → am_S → Option (Int32 × am_S)} (hgo : ∀ {x1 : Int32} {x2 : Int32} {x3 : Int32} {σ σ' : am_S} {r : Int32}, go x1 x2 x3 σ = some (r, σ') → am_A S_m M_Mo_readWhats (4, [some (.ref 0), some (.int x1), some (.int x2), some (.int x3), none, none, none, none], [], σ) (am_r S_m (fun q τ => q = some (.int r) ∧ τ = σ'))) (h : g_Mo_readWhats_75 go x1 x2 x3 x4 x6 σ = some (r, σ')) : am_A S_m M_Mo_readWhats (75, [some (.ref 0), some (.int x1), some (.int x2), some (.int x3), some (.long x4), none, some (.long x6), none], [], σ) (am_r S_m (fun q τ => q = some (.int r) ∧ τ = σ')) := by
  unfold g_Mo_readWhats_75 at h
  refine a_lload i_Mo_readWhats_75 rfl ?_
  refine a_lconst i_Mo_readWhats_77 ?_
  refine a_lcmp i_Mo_readWhats_78 ?_
  by_cases c4 : (lg_cmp x4 1) = 0
  · rw [if_pos c4] at h
    refine a_iff i_Mo_readWhats_79 c4 ?_
    refine a_iload_n i_Mo_readWhats_82 rfl ?_
    refine a_iconst i_Mo_readWhats_83 ?_
    by_cases c7 : x2 = (-1)
    · rw [if_pos c7] at h
      refine a_icf i_Mo_readWhats_84 c7 ?_
      refine a_lload i_Mo_readWhats_87 rfl ?_
      refine a_ldc2 i_Mo_readWhats_89 ?_
      refine a_lcmp i_Mo_readWhats_92 ?_
      by_cases c11 : (lg_cmp x6 8) = 0
      · rw [if_pos c11] at h
        refine a_ift i_Mo_readWhats_93 c11 ?_
        exact t_Mo_readWhats_108 hgo h
      · rw [if_neg c11] at h
        refine a_iff i_Mo_readWhats_93 c11 ?_
        refine a_lload i_Mo_readWhats_96 rfl ?_
        refine a_ldc2 i_Mo_readWhats_98 ?_
        refine a_lcmp i_Mo_readWhats_101 ?_
        by_cases c15 : (lg_cmp x6 31) = 0
        · rw [if_pos c15] at h
          refine a_ift i_Mo_readWhats_102 c15 ?_
          exact t_Mo_readWhats_108 hgo h
        · rw [if_neg c15] at h
          refine a_iff i_Mo_readWhats_102 c15 ?_
          exact am_wk (t_Mo_readWhats_105 h) ⟨Or.inl rfl, Or.inl rfl, Or.inl rfl, Or.inl rfl, Or.inl rfl, Or.inl rfl, Or.inl rfl, Or.inl rfl, trivial⟩
    · rw [if_neg c7] at h
      refine a_ict i_Mo_readWhats_84 c7 ?_
      exact t_Mo_readWhats_108 hgo h
  · rw [if_neg c4] at h
    refine a_ift i_Mo_readWhats_79 c4 ?_
    exact t_Mo_readWhats_108 hgo h
def g_Mo_readWhats_4 : Nat → Int32 → Int32 → Int32 → am_S → Option (Int32 × am_S)
  | 0, _, _, _, _ => none
  | n + 1, x1, x2, x3, σ =>
  if x3 < x1 then
    am_bd (g_Mo_leb (0) σ) fun v6 σ6 =>
    am_bd (g_Mo_leb (0) σ6) fun v10 σ10 =>
    if (σ10.1.1 0 8) = 0 then
      if (lg_cmp v10 8) = 0 then
        g_Mo_readWhats_75 (g_Mo_readWhats_4 n) x1 x2 x3 v6 v10 σ10
      else
        if (lg_cmp v10 31) = 0 then
          g_Mo_readWhats_75 (g_Mo_readWhats_4 n) x1 x2 x3 v6 v10 σ10
        else
          if (lg_cmp v10 11) = 0 then
            g_Mo_readWhats_75 (g_Mo_readWhats_4 n) x1 x2 x3 v6 v10 σ10
          else
            if (lg_cmp v10 5) = 0 then
              g_Mo_readWhats_75 (g_Mo_readWhats_4 n) x1 x2 x3 v6 v10 σ10
            else
              if (lg_cmp v10 15) = 0 then
                g_Mo_readWhats_75 (g_Mo_readWhats_4 n) x1 x2 x3 v6 v10 σ10
              else
                g_Mo_readWhats_105 σ10
    else
      g_Mo_readWhats_105 σ10
  else
    some (x2, σ)
set_option maxHeartbeats 4000000 in
theorem t_Mo_readWhats_4 : ∀ (n : Nat) {x1 : Int32} {x2 : Int32} {x3 : Int32} {σ σ' : am_S} {r : Int32} (h : g_Mo_readWhats_4 n x1 x2 x3 σ = some (r, σ')), am_A S_m M_Mo_readWhats (4, [some (.ref 0), some (.int x1), some (.int x2), some (.int x3), none, none, none, none], [], σ) (am_r S_m (fun q τ => q = some (.int r) ∧ τ = σ')) := by
  intro n
  induction n with
  | zero =>
    intro x1 x2 x3 σ σ' r h
    cases h
  | succ n ih =>
  intro x1 x2 x3 σ σ' r h
  unfold g_Mo_readWhats_4 at h
  refine a_iload_n i_Mo_readWhats_4 rfl ?_
  refine a_iload_n i_Mo_readWhats_5 rfl ?_
  by_cases c3 : x3 < x1
  · rw [if_pos c3] at h
    refine a_icf i_Mo_readWhats_6 (Int32.not_le.mpr c3) ?_
    refine a_aload_n i_Mo_readWhats_9 rfl ?_
    refine a_iconst i_Mo_readWhats_10 ?_
    obtain ⟨v6, σ6, e6, h⟩ := am_bd_some h
    refine am_cvd (rest := []) [.int 0] c_Mo_readWhats_11 ⟨by decide, _, rfl⟩ rfl (Nat.le_of_ble_eq_true rfl) (t_Mo_leb e6) ?_
    refine a_lstore i_Mo_readWhats_14 rfl ?_
    refine a_aload_n i_Mo_readWhats_16 rfl ?_
    refine a_iconst i_Mo_readWhats_17 ?_
    obtain ⟨v10, σ10, e10, h⟩ := am_bd_some h
    refine am_cvd (rest := []) [.int 0] c_Mo_readWhats_18 ⟨by decide, _, rfl⟩ rfl (Nat.le_of_ble_eq_true rfl) (t_Mo_leb e10) ?_
    refine a_lstore i_Mo_readWhats_21 rfl ?_
    refine a_aload_n i_Mo_readWhats_23 rfl ?_
    refine a_get (v := .int (σ10.1.1 0 8)) i_Mo_readWhats_24 rfl rfl ?_
    by_cases c14 : (σ10.1.1 0 8) = 0
    · rw [if_pos c14] at h
      refine a_iff i_Mo_readWhats_27 c14 ?_
      refine a_lload i_Mo_readWhats_30 rfl ?_
      refine a_ldc2 i_Mo_readWhats_32 ?_
      refine a_lcmp i_Mo_readWhats_35 ?_
      by_cases c18 : (lg_cmp v10 8) = 0
      · rw [if_pos c18] at h
        refine a_ift i_Mo_readWhats_36 c18 ?_
        exact t_Mo_readWhats_75 (fun h => ih h) h
      · rw [if_neg c18] at h
        refine a_iff i_Mo_readWhats_36 c18 ?_
        refine a_lload i_Mo_readWhats_39 rfl ?_
        refine a_ldc2 i_Mo_readWhats_41 ?_
        refine a_lcmp i_Mo_readWhats_44 ?_
        by_cases c22 : (lg_cmp v10 31) = 0
        · rw [if_pos c22] at h
          refine a_ift i_Mo_readWhats_45 c22 ?_
          exact t_Mo_readWhats_75 (fun h => ih h) h
        · rw [if_neg c22] at h
          refine a_iff i_Mo_readWhats_45 c22 ?_
          refine a_lload i_Mo_readWhats_48 rfl ?_
          refine a_ldc2 i_Mo_readWhats_50 ?_
          refine a_lcmp i_Mo_readWhats_53 ?_
          by_cases c26 : (lg_cmp v10 11) = 0
          · rw [if_pos c26] at h
            refine a_ift i_Mo_readWhats_54 c26 ?_
            exact t_Mo_readWhats_75 (fun h => ih h) h
          · rw [if_neg c26] at h
            refine a_iff i_Mo_readWhats_54 c26 ?_
            refine a_lload i_Mo_readWhats_57 rfl ?_
            refine a_ldc2 i_Mo_readWhats_59 ?_
            refine a_lcmp i_Mo_readWhats_62 ?_
            by_cases c30 : (lg_cmp v10 5) = 0
            · rw [if_pos c30] at h
              refine a_ift i_Mo_readWhats_63 c30 ?_
              exact t_Mo_readWhats_75 (fun h => ih h) h
            · rw [if_neg c30] at h
              refine a_iff i_Mo_readWhats_63 c30 ?_
              refine a_lload i_Mo_readWhats_66 rfl ?_
              refine a_ldc2 i_Mo_readWhats_68 ?_
              refine a_lcmp i_Mo_readWhats_71 ?_
              by_cases c34 : (lg_cmp v10 15) = 0
              · rw [if_pos c34] at h
                refine a_iff i_Mo_readWhats_72 c34 ?_
                exact t_Mo_readWhats_75 (fun h => ih h) h
              · rw [if_neg c34] at h
                refine a_ift i_Mo_readWhats_72 c34 ?_
                exact am_wk (t_Mo_readWhats_105 h) ⟨Or.inl rfl, Or.inl rfl, Or.inl rfl, Or.inl rfl, Or.inl rfl, Or.inl rfl, Or.inl rfl, Or.inl rfl, trivial⟩
    · rw [if_neg c14] at h
      refine a_ift i_Mo_readWhats_27 c14 ?_
      exact am_wk (t_Mo_readWhats_105 h) ⟨Or.inl rfl, Or.inl rfl, Or.inl rfl, Or.inl rfl, Or.inl rfl, Or.inl rfl, Or.inl rfl, Or.inl rfl, trivial⟩
  · rw [if_neg c3] at h
    refine a_ict i_Mo_readWhats_6 (Int32.not_lt.mp c3) ?_
    refine a_iload_n i_Mo_readWhats_141 rfl ?_
    exact am_ret_i ok_Mo_readWhats rfl rfl (am_lf_i h)
def g_Mo_readWhats (x1 : Int32) (σ : am_S) : Option (Int32 × am_S) :=
  g_Mo_readWhats_4 4000 x1 (-1) (0) σ
set_option maxHeartbeats 4000000 in
theorem t_Mo_readWhats_0 {x1 : Int32} {σ σ' : am_S} {r : Int32} (h : g_Mo_readWhats x1 σ = some (r, σ')) : am_A S_m M_Mo_readWhats (0, [some (.ref 0), some (.int x1), none, none, none, none, none, none], [], σ) (am_r S_m (fun q τ => q = some (.int r) ∧ τ = σ')) := by
  unfold g_Mo_readWhats at h
  refine a_iconst i_Mo_readWhats_0 ?_
  refine a_istore_n i_Mo_readWhats_1 rfl ?_
  refine a_iconst i_Mo_readWhats_2 ?_
  refine a_istore_n i_Mo_readWhats_3 rfl ?_
  exact t_Mo_readWhats_4 4000 h
theorem t_Mo_readWhats {x1 : Int32} {σ σ' : am_S} {r : Int32} (h : g_Mo_readWhats x1 σ = some (r, σ')) : am_Mt S_m M_Mo_readWhats [.ref 0, .int x1] σ (fun q τ => q = some (.int r) ∧ τ = σ') :=
  am_M_of ok_Mo_readWhats (Nat.le_of_ble_eq_true rfl) (t_Mo_readWhats_0 h)
