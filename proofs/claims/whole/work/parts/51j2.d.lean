def g_Mo_readEntries_267 (go : Int32 → Int32 → am_S → Option (Int32 × am_S)) (x1 : Int32) (x2 : Int32) (σ : am_S) : Option (Int32 × am_S) :=
  go x1 x2 σ
set_option maxHeartbeats 4000000 in
theorem t_Mo_readEntries_267 {x1 : Int32} {x2 : Int32} {σ σ' : am_S} {r : Int32} {go : Int32 → Int32 → am_S → Option (Int32 × am_S)} (hgo : ∀ {x1 : Int32} {x2 : Int32} {σ σ' : am_S} {r : Int32}, go x1 x2 σ = some (r, σ') → am_A S_m M_Mo_readEntries (12, [some (.ref 0), some (.int x1), some (.int x2), none, none, none, none, none], [], σ) (am_r S_m (fun q τ => q = some (.int r) ∧ τ = σ'))) (h : g_Mo_readEntries_267 go x1 x2 σ = some (r, σ')) : am_A S_m M_Mo_readEntries (267, [some (.ref 0), some (.int x1), some (.int x2), none, none, none, none, none], [], σ) (am_r S_m (fun q τ => q = some (.int r) ∧ τ = σ')) := by
  unfold g_Mo_readEntries_267 at h
  refine a_goto i_Mo_readEntries_267 ?_
  exact hgo h
def g_Mo_readEntries_91 (go : Int32 → Int32 → am_S → Option (Int32 × am_S)) (x1 : Int32) (y0 : Int32) (σ : am_S) : Option (Int32 × am_S) :=
  g_Mo_readEntries_267 go x1 y0 (am_fi σ 0 23 ((σ.1.1 0 23) - 1))
set_option maxHeartbeats 4000000 in
theorem t_Mo_readEntries_91 {x1 : Int32} {y0 : Int32} {σ σ' : am_S} {r : Int32} {go : Int32 → Int32 → am_S → Option (Int32 × am_S)} (hgo : ∀ {x1 : Int32} {x2 : Int32} {σ σ' : am_S} {r : Int32}, go x1 x2 σ = some (r, σ') → am_A S_m M_Mo_readEntries (12, [some (.ref 0), some (.int x1), some (.int x2), none, none, none, none, none], [], σ) (am_r S_m (fun q τ => q = some (.int r) ∧ τ = σ'))) (h : g_Mo_readEntries_91 go x1 y0 σ = some (r, σ')) : am_A S_m M_Mo_readEntries (91, [some (.ref 0), some (.int x1), none, none, none, none, none, none], [.int y0], σ) (am_r S_m (fun q τ => q = some (.int r) ∧ τ = σ')) := by
  unfold g_Mo_readEntries_91 at h
  refine a_istore_n i_Mo_readEntries_91 rfl ?_
  refine a_aload_n i_Mo_readEntries_92 rfl ?_
  refine a_dup_a i_Mo_readEntries_93 ?_
  refine a_get (v := .int (σ.1.1 0 23)) i_Mo_readEntries_94 rfl rfl ?_
  refine a_iconst i_Mo_readEntries_97 ?_
  refine a_isub i_Mo_readEntries_98 ?_
  refine a_puti i_Mo_readEntries_99 rfl trivial ?_
  refine a_goto i_Mo_readEntries_102 ?_
  exact t_Mo_readEntries_267 hgo h
def g_Mo_readEntries_228 (go : Int32 → Int32 → am_S → Option (Int32 × am_S)) (x1 : Int32) (x2 : Int32) (x6 : Int32) (σ : am_S) : Option (Int32 × am_S) :=
  if x2 = 0 then
    g_Mo_readEntries_267 go x1 x2 σ
  else
    am_gd (inb x6 40) <|
    if (σ.2.1 10 x6.toNatClampNeg) = 0 then
      g_Mo_readEntries_267 go x1 x2 σ
    else
      am_gd (inb (σ.1.1 0 23) 16) <|
      g_Mo_readEntries_267 go x1 x2 (am_fi (am_ai σ 15 (σ.1.1 0 23).toNatClampNeg ((σ.1.1 0 22) - 1)) 0 23 ((σ.1.1 0 23) + 1))
set_option maxHeartbeats 4000000 in
theorem t_Mo_readEntries_228 {x1 : Int32} {x2 : Int32} {x6 : Int32} {σ σ' : am_S} {r : Int32} {go : Int32 → Int32 → am_S → Option (Int32 × am_S)} (hgo : ∀ {x1 : Int32} {x2 : Int32} {σ σ' : am_S} {r : Int32}, go x1 x2 σ = some (r, σ') → am_A S_m M_Mo_readEntries (12, [some (.ref 0), some (.int x1), some (.int x2), none, none, none, none, none], [], σ) (am_r S_m (fun q τ => q = some (.int r) ∧ τ = σ'))) (h : g_Mo_readEntries_228 go x1 x2 x6 σ = some (r, σ')) : am_A S_m M_Mo_readEntries (228, [some (.ref 0), some (.int x1), some (.int x2), none, none, none, some (.int x6), none], [], σ) (am_r S_m (fun q τ => q = some (.int r) ∧ τ = σ')) := by
  unfold g_Mo_readEntries_228 at h
  refine a_iload_n i_Mo_readEntries_228 rfl ?_
  by_cases c2 : x2 = 0
  · rw [if_pos c2] at h
    refine a_ift i_Mo_readEntries_229 c2 ?_
    exact am_wk (t_Mo_readEntries_267 hgo h) ⟨Or.inr rfl, Or.inr rfl, Or.inr rfl, Or.inl rfl, Or.inl rfl, Or.inl rfl, Or.inl rfl, Or.inl rfl, trivial⟩
  · rw [if_neg c2] at h
    refine a_iff i_Mo_readEntries_229 c2 ?_
    refine a_aload_n i_Mo_readEntries_232 rfl ?_
    refine a_get (v := .ref 10) i_Mo_readEntries_233 rfl rfl ?_
    refine a_iload i_Mo_readEntries_236 rfl ?_
    obtain ⟨c6, h⟩ := gd_some h
    refine a_bal (n := 40) i_Mo_readEntries_238 rfl rfl (inb_in c6) ?_
    by_cases c7 : (σ.2.1 10 x6.toNatClampNeg) = 0
    · rw [if_pos c7] at h
      refine a_ift i_Mo_readEntries_239 c7 ?_
      exact am_wk (t_Mo_readEntries_267 hgo h) ⟨Or.inr rfl, Or.inr rfl, Or.inr rfl, Or.inl rfl, Or.inl rfl, Or.inl rfl, Or.inl rfl, Or.inl rfl, trivial⟩
    · rw [if_neg c7] at h
      refine a_iff i_Mo_readEntries_239 c7 ?_
      refine a_aload_n i_Mo_readEntries_242 rfl ?_
      refine a_get (v := .ref 15) i_Mo_readEntries_243 rfl rfl ?_
      refine a_aload_n i_Mo_readEntries_246 rfl ?_
      refine a_get (v := .int (σ.1.1 0 23)) i_Mo_readEntries_247 rfl rfl ?_
      refine a_aload_n i_Mo_readEntries_250 rfl ?_
      refine a_get (v := .int (σ.1.1 0 22)) i_Mo_readEntries_251 rfl rfl ?_
      refine a_iconst i_Mo_readEntries_254 ?_
      refine a_isub i_Mo_readEntries_255 ?_
      obtain ⟨c16, h⟩ := gd_some h
      refine a_ias (n := 16) i_Mo_readEntries_256 rfl rfl (inb_in c16) ?_
      refine a_aload_n i_Mo_readEntries_257 rfl ?_
      refine a_dup_a i_Mo_readEntries_258 ?_
      refine a_get (v := .int (σ.1.1 0 23)) i_Mo_readEntries_259 rfl rfl ?_
      refine a_iconst i_Mo_readEntries_262 ?_
      refine a_iadd i_Mo_readEntries_263 ?_
      refine a_puti i_Mo_readEntries_264 rfl trivial ?_
      exact am_wk (t_Mo_readEntries_267 hgo h) ⟨Or.inr rfl, Or.inr rfl, Or.inr rfl, Or.inl rfl, Or.inl rfl, Or.inl rfl, Or.inl rfl, Or.inl rfl, trivial⟩
def g_Mo_readEntries_227 (go : Int32 → Int32 → am_S → Option (Int32 × am_S)) (x1 : Int32) (x6 : Int32) (y0 : Int32) (σ : am_S) : Option (Int32 × am_S) :=
  g_Mo_readEntries_228 go x1 y0 x6 σ
set_option maxHeartbeats 4000000 in
theorem t_Mo_readEntries_227 {x1 : Int32} {x6 : Int32} {y0 : Int32} {σ σ' : am_S} {r : Int32} {go : Int32 → Int32 → am_S → Option (Int32 × am_S)} (hgo : ∀ {x1 : Int32} {x2 : Int32} {σ σ' : am_S} {r : Int32}, go x1 x2 σ = some (r, σ') → am_A S_m M_Mo_readEntries (12, [some (.ref 0), some (.int x1), some (.int x2), none, none, none, none, none], [], σ) (am_r S_m (fun q τ => q = some (.int r) ∧ τ = σ'))) (h : g_Mo_readEntries_227 go x1 x6 y0 σ = some (r, σ')) : am_A S_m M_Mo_readEntries (227, [some (.ref 0), some (.int x1), none, none, none, none, some (.int x6), none], [.int y0], σ) (am_r S_m (fun q τ => q = some (.int r) ∧ τ = σ')) := by
  unfold g_Mo_readEntries_227 at h
  refine a_istore_n i_Mo_readEntries_227 rfl ?_
  exact t_Mo_readEntries_228 hgo h
def g_Mo_readEntries_222 (go : Int32 → Int32 → am_S → Option (Int32 × am_S)) (x1 : Int32) (x6 : Int32) (σ : am_S) : Option (Int32 × am_S) :=
  g_Mo_readEntries_227 go x1 x6 (1) σ
set_option maxHeartbeats 4000000 in
theorem t_Mo_readEntries_222 {x1 : Int32} {x6 : Int32} {σ σ' : am_S} {r : Int32} {go : Int32 → Int32 → am_S → Option (Int32 × am_S)} (hgo : ∀ {x1 : Int32} {x2 : Int32} {σ σ' : am_S} {r : Int32}, go x1 x2 σ = some (r, σ') → am_A S_m M_Mo_readEntries (12, [some (.ref 0), some (.int x1), some (.int x2), none, none, none, none, none], [], σ) (am_r S_m (fun q τ => q = some (.int r) ∧ τ = σ'))) (h : g_Mo_readEntries_222 go x1 x6 σ = some (r, σ')) : am_A S_m M_Mo_readEntries (222, [some (.ref 0), some (.int x1), none, none, none, none, some (.int x6), none], [], σ) (am_r S_m (fun q τ => q = some (.int r) ∧ τ = σ')) := by
  unfold g_Mo_readEntries_222 at h
  refine a_iconst i_Mo_readEntries_222 ?_
  refine a_goto i_Mo_readEntries_223 ?_
  exact t_Mo_readEntries_227 hgo h
def g_Mo_readEntries_226 (go : Int32 → Int32 → am_S → Option (Int32 × am_S)) (x1 : Int32) (x6 : Int32) (σ : am_S) : Option (Int32 × am_S) :=
  g_Mo_readEntries_227 go x1 x6 (0) σ
set_option maxHeartbeats 4000000 in
theorem t_Mo_readEntries_226 {x1 : Int32} {x6 : Int32} {σ σ' : am_S} {r : Int32} {go : Int32 → Int32 → am_S → Option (Int32 × am_S)} (hgo : ∀ {x1 : Int32} {x2 : Int32} {σ σ' : am_S} {r : Int32}, go x1 x2 σ = some (r, σ') → am_A S_m M_Mo_readEntries (12, [some (.ref 0), some (.int x1), some (.int x2), none, none, none, none, none], [], σ) (am_r S_m (fun q τ => q = some (.int r) ∧ τ = σ'))) (h : g_Mo_readEntries_226 go x1 x6 σ = some (r, σ')) : am_A S_m M_Mo_readEntries (226, [some (.ref 0), some (.int x1), none, none, none, none, some (.int x6), none], [], σ) (am_r S_m (fun q τ => q = some (.int r) ∧ τ = σ')) := by
  unfold g_Mo_readEntries_226 at h
  refine a_iconst i_Mo_readEntries_226 ?_
  exact t_Mo_readEntries_227 hgo h
def g_Mo_readEntries_184 (go : Int32 → Int32 → am_S → Option (Int32 × am_S)) (x1 : Int32) (x3 : Int32) (x6 : Int32) (y0 : Int32) (σ : am_S) : Option (Int32 × am_S) :=
  if y0 = 0 then
    g_Mo_readEntries_228 go x1 y0 x6 σ
  else
    am_bd (g_Mo_readEntry x3 x6 σ) fun _ σ7 =>
    if (σ7.1.1 0 8) = 0 then
      am_gd (inb x6 40) <|
      if (σ7.2.1 10 x6.toNatClampNeg) = 0 then
        g_Mo_readEntries_222 go x1 x6 σ7
      else
        if (σ7.1.1 0 23) < 16 then
          g_Mo_readEntries_222 go x1 x6 σ7
        else
          g_Mo_readEntries_226 go x1 x6 σ7
    else
      g_Mo_readEntries_226 go x1 x6 σ7
set_option maxHeartbeats 4000000 in
theorem t_Mo_readEntries_184 {x1 : Int32} {x3 : Int32} {x6 : Int32} {y0 : Int32} {σ σ' : am_S} {r : Int32} {go : Int32 → Int32 → am_S → Option (Int32 × am_S)} (hgo : ∀ {x1 : Int32} {x2 : Int32} {σ σ' : am_S} {r : Int32}, go x1 x2 σ = some (r, σ') → am_A S_m M_Mo_readEntries (12, [some (.ref 0), some (.int x1), some (.int x2), none, none, none, none, none], [], σ) (am_r S_m (fun q τ => q = some (.int r) ∧ τ = σ'))) (h : g_Mo_readEntries_184 go x1 x3 x6 y0 σ = some (r, σ')) : am_A S_m M_Mo_readEntries (184, [some (.ref 0), some (.int x1), none, some (.int x3), none, none, some (.int x6), none], [.int y0], σ) (am_r S_m (fun q τ => q = some (.int r) ∧ τ = σ')) := by
  unfold g_Mo_readEntries_184 at h
  refine a_istore_n i_Mo_readEntries_184 rfl ?_
  refine a_iload_n i_Mo_readEntries_185 rfl ?_
  by_cases c3 : y0 = 0
  · rw [if_pos c3] at h
    refine a_ift i_Mo_readEntries_186 c3 ?_
    exact am_wk (t_Mo_readEntries_228 hgo h) ⟨Or.inr rfl, Or.inr rfl, Or.inr rfl, Or.inl rfl, Or.inl rfl, Or.inl rfl, Or.inr rfl, Or.inl rfl, trivial⟩
  · rw [if_neg c3] at h
    refine a_iff i_Mo_readEntries_186 c3 ?_
    refine a_aload_n i_Mo_readEntries_189 rfl ?_
    refine a_iload_n i_Mo_readEntries_190 rfl ?_
    refine a_iload i_Mo_readEntries_191 rfl ?_
    obtain ⟨v7, σ7, e7, h⟩ := am_bd_some h
    refine am_cvd (rest := []) [.int x3, .int x6] c_Mo_readEntries_193 ⟨by decide, _, rfl⟩ rfl (Nat.le_of_ble_eq_true rfl) (t_Mo_readEntry e7) ?_
    refine a_aload_n i_Mo_readEntries_196 rfl ?_
    refine a_get (v := .int (σ7.1.1 0 8)) i_Mo_readEntries_197 rfl rfl ?_
    by_cases c10 : (σ7.1.1 0 8) = 0
    · rw [if_pos c10] at h
      refine a_iff i_Mo_readEntries_200 c10 ?_
      refine a_aload_n i_Mo_readEntries_203 rfl ?_
      refine a_get (v := .ref 10) i_Mo_readEntries_204 rfl rfl ?_
      refine a_iload i_Mo_readEntries_207 rfl ?_
      obtain ⟨c14, h⟩ := gd_some h
      refine a_bal (n := 40) i_Mo_readEntries_209 rfl rfl (inb_in c14) ?_
      by_cases c15 : (σ7.2.1 10 x6.toNatClampNeg) = 0
      · rw [if_pos c15] at h
        refine a_ift i_Mo_readEntries_210 c15 ?_
        exact am_wk (t_Mo_readEntries_222 hgo h) ⟨Or.inr rfl, Or.inr rfl, Or.inl rfl, Or.inl rfl, Or.inl rfl, Or.inl rfl, Or.inr rfl, Or.inl rfl, trivial⟩
      · rw [if_neg c15] at h
        refine a_iff i_Mo_readEntries_210 c15 ?_
        refine a_aload_n i_Mo_readEntries_213 rfl ?_
        refine a_get (v := .int (σ7.1.1 0 23)) i_Mo_readEntries_214 rfl rfl ?_
        refine a_bipush i_Mo_readEntries_217 ?_
        by_cases c19 : (σ7.1.1 0 23) < 16
        · rw [if_pos c19] at h
          refine a_icf i_Mo_readEntries_219 (Int32.not_le.mpr c19) ?_
          exact am_wk (t_Mo_readEntries_222 hgo h) ⟨Or.inr rfl, Or.inr rfl, Or.inl rfl, Or.inl rfl, Or.inl rfl, Or.inl rfl, Or.inr rfl, Or.inl rfl, trivial⟩
        · rw [if_neg c19] at h
          refine a_ict i_Mo_readEntries_219 (Int32.not_lt.mp c19) ?_
          exact am_wk (t_Mo_readEntries_226 hgo h) ⟨Or.inr rfl, Or.inr rfl, Or.inl rfl, Or.inl rfl, Or.inl rfl, Or.inl rfl, Or.inr rfl, Or.inl rfl, trivial⟩
    · rw [if_neg c10] at h
      refine a_ift i_Mo_readEntries_200 c10 ?_
      exact am_wk (t_Mo_readEntries_226 hgo h) ⟨Or.inr rfl, Or.inr rfl, Or.inl rfl, Or.inl rfl, Or.inl rfl, Or.inl rfl, Or.inr rfl, Or.inl rfl, trivial⟩
def g_Mo_readEntries_179 (go : Int32 → Int32 → am_S → Option (Int32 × am_S)) (x1 : Int32) (x3 : Int32) (x6 : Int32) (σ : am_S) : Option (Int32 × am_S) :=
  g_Mo_readEntries_184 go x1 x3 x6 (1) σ
set_option maxHeartbeats 4000000 in
theorem t_Mo_readEntries_179 {x1 : Int32} {x3 : Int32} {x6 : Int32} {σ σ' : am_S} {r : Int32} {go : Int32 → Int32 → am_S → Option (Int32 × am_S)} (hgo : ∀ {x1 : Int32} {x2 : Int32} {σ σ' : am_S} {r : Int32}, go x1 x2 σ = some (r, σ') → am_A S_m M_Mo_readEntries (12, [some (.ref 0), some (.int x1), some (.int x2), none, none, none, none, none], [], σ) (am_r S_m (fun q τ => q = some (.int r) ∧ τ = σ'))) (h : g_Mo_readEntries_179 go x1 x3 x6 σ = some (r, σ')) : am_A S_m M_Mo_readEntries (179, [some (.ref 0), some (.int x1), none, some (.int x3), none, none, some (.int x6), none], [], σ) (am_r S_m (fun q τ => q = some (.int r) ∧ τ = σ')) := by
  unfold g_Mo_readEntries_179 at h
  refine a_iconst i_Mo_readEntries_179 ?_
  refine a_goto i_Mo_readEntries_180 ?_
  exact t_Mo_readEntries_184 hgo h
def g_Mo_readEntries_183 (go : Int32 → Int32 → am_S → Option (Int32 × am_S)) (x1 : Int32) (x3 : Int32) (x6 : Int32) (σ : am_S) : Option (Int32 × am_S) :=
  g_Mo_readEntries_184 go x1 x3 x6 (0) σ
set_option maxHeartbeats 4000000 in
theorem t_Mo_readEntries_183 {x1 : Int32} {x3 : Int32} {x6 : Int32} {σ σ' : am_S} {r : Int32} {go : Int32 → Int32 → am_S → Option (Int32 × am_S)} (hgo : ∀ {x1 : Int32} {x2 : Int32} {σ σ' : am_S} {r : Int32}, go x1 x2 σ = some (r, σ') → am_A S_m M_Mo_readEntries (12, [some (.ref 0), some (.int x1), some (.int x2), none, none, none, none, none], [], σ) (am_r S_m (fun q τ => q = some (.int r) ∧ τ = σ'))) (h : g_Mo_readEntries_183 go x1 x3 x6 σ = some (r, σ')) : am_A S_m M_Mo_readEntries (183, [some (.ref 0), some (.int x1), none, some (.int x3), none, none, some (.int x6), none], [], σ) (am_r S_m (fun q τ => q = some (.int r) ∧ τ = σ')) := by
  unfold g_Mo_readEntries_183 at h
  refine a_iconst i_Mo_readEntries_183 ?_
  exact t_Mo_readEntries_184 hgo h
def g_Mo_readEntries_118 (go : Int32 → Int32 → am_S → Option (Int32 × am_S)) (x1 : Int32) (x3 : Int32) (x6 : Int32) (y0 : Int32) (σ : am_S) : Option (Int32 × am_S) :=
  if x6 = (-1) then
    g_Mo_readEntries_183 go x1 x3 x6 σ
  else
    if (σ.1.1 0 22) < 200 then
      if y0 = 0 then
        if 0 < (σ.1.1 0 23) then
          am_gd (inb x6 40) <|
          if (lg_cmp (σ.2.2 7 x6.toNatClampNeg) 17) = 0 then
            g_Mo_readEntries_183 go x1 x3 x6 σ
          else
            g_Mo_readEntries_179 go x1 x3 x6 σ
        else
          g_Mo_readEntries_183 go x1 x3 x6 σ
      else
        am_gd (inb x6 40) <|
        if (lg_cmp (σ.2.2 7 x6.toNatClampNeg) 17) = 0 then
          g_Mo_readEntries_179 go x1 x3 x6 σ
        else
          g_Mo_readEntries_183 go x1 x3 x6 σ
    else
      g_Mo_readEntries_183 go x1 x3 x6 σ
set_option maxHeartbeats 4000000 in
theorem t_Mo_readEntries_118 {x1 : Int32} {x3 : Int32} {x6 : Int32} {y0 : Int32} {σ σ' : am_S} {r : Int32} {go : Int32 → Int32 → am_S → Option (Int32 × am_S)} (hgo : ∀ {x1 : Int32} {x2 : Int32} {σ σ' : am_S} {r : Int32}, go x1 x2 σ = some (r, σ') → am_A S_m M_Mo_readEntries (12, [some (.ref 0), some (.int x1), some (.int x2), none, none, none, none, none], [], σ) (am_r S_m (fun q τ => q = some (.int r) ∧ τ = σ'))) (h : g_Mo_readEntries_118 go x1 x3 x6 y0 σ = some (r, σ')) : am_A S_m M_Mo_readEntries (118, [some (.ref 0), some (.int x1), none, some (.int x3), none, none, some (.int x6), none], [.int y0], σ) (am_r S_m (fun q τ => q = some (.int r) ∧ τ = σ')) := by
  unfold g_Mo_readEntries_118 at h
  refine a_istore i_Mo_readEntries_118 rfl ?_
  refine a_iload i_Mo_readEntries_120 rfl ?_
  refine a_iconst i_Mo_readEntries_122 ?_
  by_cases c4 : x6 = (-1)
  · rw [if_pos c4] at h
    refine a_ict i_Mo_readEntries_123 c4 ?_
    exact am_wk (t_Mo_readEntries_183 hgo h) ⟨Or.inr rfl, Or.inr rfl, Or.inl rfl, Or.inr rfl, Or.inl rfl, Or.inl rfl, Or.inr rfl, Or.inl rfl, trivial⟩
  · rw [if_neg c4] at h
    refine a_icf i_Mo_readEntries_123 c4 ?_
    refine a_aload_n i_Mo_readEntries_126 rfl ?_
    refine a_get (v := .int (σ.1.1 0 22)) i_Mo_readEntries_127 rfl rfl ?_
    refine a_sipush i_Mo_readEntries_130 ?_
    by_cases c8 : (σ.1.1 0 22) < 200
    · rw [if_pos c8] at h
      refine a_icf i_Mo_readEntries_133 (Int32.not_le.mpr c8) ?_
      refine a_iload i_Mo_readEntries_136 rfl ?_
      by_cases c10 : y0 = 0
      · rw [if_pos c10] at h
        refine a_ift i_Mo_readEntries_138 c10 ?_
        refine a_aload_n i_Mo_readEntries_158 rfl ?_
        refine a_get (v := .int (σ.1.1 0 23)) i_Mo_readEntries_159 rfl rfl ?_
        by_cases c13 : 0 < (σ.1.1 0 23)
        · rw [if_pos c13] at h
          refine a_iff i_Mo_readEntries_162 (Int32.not_le.mpr c13) ?_
          refine a_aload_n i_Mo_readEntries_165 rfl ?_
          refine a_get (v := .ref 7) i_Mo_readEntries_166 rfl rfl ?_
          refine a_iload i_Mo_readEntries_169 rfl ?_
          obtain ⟨c17, h⟩ := gd_some h
          refine a_lal (n := 40) i_Mo_readEntries_171 rfl rfl (inb_in c17) ?_
          refine a_ldc2 i_Mo_readEntries_172 ?_
          refine a_lcmp i_Mo_readEntries_175 ?_
          by_cases c20 : (lg_cmp (σ.2.2 7 x6.toNatClampNeg) 17) = 0
          · rw [if_pos c20] at h
            refine a_ift i_Mo_readEntries_176 c20 ?_
            exact am_wk (t_Mo_readEntries_183 hgo h) ⟨Or.inr rfl, Or.inr rfl, Or.inl rfl, Or.inr rfl, Or.inl rfl, Or.inl rfl, Or.inr rfl, Or.inl rfl, trivial⟩
          · rw [if_neg c20] at h
            refine a_iff i_Mo_readEntries_176 c20 ?_
            exact am_wk (t_Mo_readEntries_179 hgo h) ⟨Or.inr rfl, Or.inr rfl, Or.inl rfl, Or.inr rfl, Or.inl rfl, Or.inl rfl, Or.inr rfl, Or.inl rfl, trivial⟩
        · rw [if_neg c13] at h
          refine a_ift i_Mo_readEntries_162 (Int32.not_lt.mp c13) ?_
          exact am_wk (t_Mo_readEntries_183 hgo h) ⟨Or.inr rfl, Or.inr rfl, Or.inl rfl, Or.inr rfl, Or.inl rfl, Or.inl rfl, Or.inr rfl, Or.inl rfl, trivial⟩
      · rw [if_neg c10] at h
        refine a_iff i_Mo_readEntries_138 c10 ?_
        refine a_aload_n i_Mo_readEntries_141 rfl ?_
        refine a_get (v := .ref 7) i_Mo_readEntries_142 rfl rfl ?_
        refine a_iload i_Mo_readEntries_145 rfl ?_
        obtain ⟨c14, h⟩ := gd_some h
        refine a_lal (n := 40) i_Mo_readEntries_147 rfl rfl (inb_in c14) ?_
        refine a_ldc2 i_Mo_readEntries_148 ?_
        refine a_lcmp i_Mo_readEntries_151 ?_
        by_cases c17 : (lg_cmp (σ.2.2 7 x6.toNatClampNeg) 17) = 0
        · rw [if_pos c17] at h
          refine a_iff i_Mo_readEntries_152 c17 ?_
          refine a_goto i_Mo_readEntries_155 ?_
          exact am_wk (t_Mo_readEntries_179 hgo h) ⟨Or.inr rfl, Or.inr rfl, Or.inl rfl, Or.inr rfl, Or.inl rfl, Or.inl rfl, Or.inr rfl, Or.inl rfl, trivial⟩
        · rw [if_neg c17] at h
          refine a_ift i_Mo_readEntries_152 c17 ?_
          exact am_wk (t_Mo_readEntries_183 hgo h) ⟨Or.inr rfl, Or.inr rfl, Or.inl rfl, Or.inr rfl, Or.inl rfl, Or.inl rfl, Or.inr rfl, Or.inl rfl, trivial⟩
    · rw [if_neg c8] at h
      refine a_ict i_Mo_readEntries_133 (Int32.not_lt.mp c8) ?_
      exact am_wk (t_Mo_readEntries_183 hgo h) ⟨Or.inr rfl, Or.inr rfl, Or.inl rfl, Or.inr rfl, Or.inl rfl, Or.inl rfl, Or.inr rfl, Or.inl rfl, trivial⟩
def g_Mo_readEntries_105 (go : Int32 → Int32 → am_S → Option (Int32 × am_S)) (x1 : Int32) (x3 : Int32) (x6 : Int32) (σ : am_S) : Option (Int32 × am_S) :=
  if (σ.1.1 0 22) = x1 then
    g_Mo_readEntries_118 go x1 x3 x6 (1) σ
  else
    g_Mo_readEntries_118 go x1 x3 x6 (0) σ
set_option maxHeartbeats 4000000 in
theorem t_Mo_readEntries_105 {x1 : Int32} {x3 : Int32} {x6 : Int32} {σ σ' : am_S} {r : Int32} {go : Int32 → Int32 → am_S → Option (Int32 × am_S)} (hgo : ∀ {x1 : Int32} {x2 : Int32} {σ σ' : am_S} {r : Int32}, go x1 x2 σ = some (r, σ') → am_A S_m M_Mo_readEntries (12, [some (.ref 0), some (.int x1), some (.int x2), none, none, none, none, none], [], σ) (am_r S_m (fun q τ => q = some (.int r) ∧ τ = σ'))) (h : g_Mo_readEntries_105 go x1 x3 x6 σ = some (r, σ')) : am_A S_m M_Mo_readEntries (105, [some (.ref 0), some (.int x1), none, some (.int x3), none, none, some (.int x6), none], [], σ) (am_r S_m (fun q τ => q = some (.int r) ∧ τ = σ')) := by
  unfold g_Mo_readEntries_105 at h
  refine a_aload_n i_Mo_readEntries_105 rfl ?_
  refine a_get (v := .int (σ.1.1 0 22)) i_Mo_readEntries_106 rfl rfl ?_
  refine a_iload_n i_Mo_readEntries_109 rfl ?_
  by_cases c4 : (σ.1.1 0 22) = x1
  · rw [if_pos c4] at h
    refine a_icf i_Mo_readEntries_110 c4 ?_
    refine a_iconst i_Mo_readEntries_113 ?_
    refine a_goto i_Mo_readEntries_114 ?_
    exact t_Mo_readEntries_118 hgo h
  · rw [if_neg c4] at h
    refine a_ict i_Mo_readEntries_110 c4 ?_
    refine a_iconst i_Mo_readEntries_117 ?_
    exact t_Mo_readEntries_118 hgo h
def g_Mo_readEntries_63 (go : Int32 → Int32 → am_S → Option (Int32 × am_S)) (x1 : Int32) (x3 : Int32) (x4 : Int64) (y0 : Int32) (σ : am_S) : Option (Int32 × am_S) :=
  if (σ.1.1 0 8) = 0 then
    if (lg_cmp x4 0) = 0 then
      if 0 < (σ.1.1 0 23) then
        g_Mo_readEntries_91 go x1 (1) σ
      else
        g_Mo_readEntries_91 go x1 (0) σ
    else
      g_Mo_readEntries_105 go x1 x3 y0 σ
  else
    g_Mo_readEntries_105 go x1 x3 y0 σ
set_option maxHeartbeats 4000000 in
theorem t_Mo_readEntries_63 {x1 : Int32} {x3 : Int32} {x4 : Int64} {y0 : Int32} {σ σ' : am_S} {r : Int32} {go : Int32 → Int32 → am_S → Option (Int32 × am_S)} (hgo : ∀ {x1 : Int32} {x2 : Int32} {σ σ' : am_S} {r : Int32}, go x1 x2 σ = some (r, σ') → am_A S_m M_Mo_readEntries (12, [some (.ref 0), some (.int x1), some (.int x2), none, none, none, none, none], [], σ) (am_r S_m (fun q τ => q = some (.int r) ∧ τ = σ'))) (h : g_Mo_readEntries_63 go x1 x3 x4 y0 σ = some (r, σ')) : am_A S_m M_Mo_readEntries (63, [some (.ref 0), some (.int x1), none, some (.int x3), some (.long x4), none, none, none], [.int y0], σ) (am_r S_m (fun q τ => q = some (.int r) ∧ τ = σ')) := by
  unfold g_Mo_readEntries_63 at h
  refine a_istore i_Mo_readEntries_63 rfl ?_
  refine a_aload_n i_Mo_readEntries_65 rfl ?_
  refine a_get (v := .int (σ.1.1 0 8)) i_Mo_readEntries_66 rfl rfl ?_
  by_cases c4 : (σ.1.1 0 8) = 0
  · rw [if_pos c4] at h
    refine a_iff i_Mo_readEntries_69 c4 ?_
    refine a_lload i_Mo_readEntries_72 rfl ?_
    refine a_lconst i_Mo_readEntries_74 ?_
    refine a_lcmp i_Mo_readEntries_75 ?_
    by_cases c8 : (lg_cmp x4 0) = 0
    · rw [if_pos c8] at h
      refine a_iff i_Mo_readEntries_76 c8 ?_
      refine a_aload_n i_Mo_readEntries_79 rfl ?_
      refine a_get (v := .int (σ.1.1 0 23)) i_Mo_readEntries_80 rfl rfl ?_
      by_cases c11 : 0 < (σ.1.1 0 23)
      · rw [if_pos c11] at h
        refine a_iff i_Mo_readEntries_83 (Int32.not_le.mpr c11) ?_
        refine a_iconst i_Mo_readEntries_86 ?_
        refine a_goto i_Mo_readEntries_87 ?_
        exact am_wk (t_Mo_readEntries_91 hgo h) ⟨Or.inr rfl, Or.inr rfl, Or.inl rfl, Or.inl rfl, Or.inl rfl, Or.inl rfl, Or.inl rfl, Or.inl rfl, trivial⟩
      · rw [if_neg c11] at h
        refine a_ift i_Mo_readEntries_83 (Int32.not_lt.mp c11) ?_
        refine a_iconst i_Mo_readEntries_90 ?_
        exact am_wk (t_Mo_readEntries_91 hgo h) ⟨Or.inr rfl, Or.inr rfl, Or.inl rfl, Or.inl rfl, Or.inl rfl, Or.inl rfl, Or.inl rfl, Or.inl rfl, trivial⟩
    · rw [if_neg c8] at h
      refine a_ift i_Mo_readEntries_76 c8 ?_
      exact am_wk (t_Mo_readEntries_105 hgo h) ⟨Or.inr rfl, Or.inr rfl, Or.inl rfl, Or.inr rfl, Or.inl rfl, Or.inl rfl, Or.inr rfl, Or.inl rfl, trivial⟩
  · rw [if_neg c4] at h
    refine a_ift i_Mo_readEntries_69 c4 ?_
    exact am_wk (t_Mo_readEntries_105 hgo h) ⟨Or.inr rfl, Or.inr rfl, Or.inl rfl, Or.inr rfl, Or.inl rfl, Or.inl rfl, Or.inr rfl, Or.inl rfl, trivial⟩
def g_Mo_readEntries_53 (go : Int32 → Int32 → am_S → Option (Int32 × am_S)) (x1 : Int32) (x3 : Int32) (x4 : Int64) (σ : am_S) : Option (Int32 × am_S) :=
  g_Mo_readEntries_63 go x1 x3 x4 (-1) σ
set_option maxHeartbeats 4000000 in
theorem t_Mo_readEntries_53 {x1 : Int32} {x3 : Int32} {x4 : Int64} {σ σ' : am_S} {r : Int32} {go : Int32 → Int32 → am_S → Option (Int32 × am_S)} (hgo : ∀ {x1 : Int32} {x2 : Int32} {σ σ' : am_S} {r : Int32}, go x1 x2 σ = some (r, σ') → am_A S_m M_Mo_readEntries (12, [some (.ref 0), some (.int x1), some (.int x2), none, none, none, none, none], [], σ) (am_r S_m (fun q τ => q = some (.int r) ∧ τ = σ'))) (h : g_Mo_readEntries_53 go x1 x3 x4 σ = some (r, σ')) : am_A S_m M_Mo_readEntries (53, [some (.ref 0), some (.int x1), none, some (.int x3), some (.long x4), none, none, none], [], σ) (am_r S_m (fun q τ => q = some (.int r) ∧ τ = σ')) := by
  unfold g_Mo_readEntries_53 at h
  refine a_iconst i_Mo_readEntries_53 ?_
  refine a_goto i_Mo_readEntries_54 ?_
  exact t_Mo_readEntries_63 hgo h
def g_Mo_readEntries_301 (y0 : Int32) (σ : am_S) : Option (Int32 × am_S) :=
  am_gd (z01 y0) <|
  some (y0, σ)
set_option maxHeartbeats 4000000 in
theorem t_Mo_readEntries_301 {y0 : Int32} {σ σ' : am_S} {r : Int32} (h : g_Mo_readEntries_301 y0 σ = some (r, σ')) : am_A S_m M_Mo_readEntries (301, [none, none, none, none, none, none, none, none], [.int y0], σ) (am_r S_m (fun q τ => q = some (.int r) ∧ τ = σ')) := by
  unfold g_Mo_readEntries_301 at h
  obtain ⟨c1, h⟩ := gd_some h
  exact am_ret_z ok_Mo_readEntries rfl rfl (z01_or c1) (am_lf_i h)
def g_Mo_readEntries_300 (σ : am_S) : Option (Int32 × am_S) :=
  g_Mo_readEntries_301 (0) σ
set_option maxHeartbeats 4000000 in
theorem t_Mo_readEntries_300 {σ σ' : am_S} {r : Int32} (h : g_Mo_readEntries_300 σ = some (r, σ')) : am_A S_m M_Mo_readEntries (300, [none, none, none, none, none, none, none, none], [], σ) (am_r S_m (fun q τ => q = some (.int r) ∧ τ = σ')) := by
  unfold g_Mo_readEntries_300 at h
  refine a_iconst i_Mo_readEntries_300 ?_
  exact t_Mo_readEntries_301 h
def g_Mo_readEntries_270 (x1 : Int32) (x2 : Int32) (σ : am_S) : Option (Int32 × am_S) :=
  if x2 = 0 then
    g_Mo_readEntries_300 σ
  else
    if (σ.1.1 0 8) = 0 then
      if x1 < (σ.1.1 0 22) then
        if (σ.1.1 0 23) = 0 then
          g_Mo_readEntries_301 (1) σ
        else
          g_Mo_readEntries_300 σ
      else
        g_Mo_readEntries_300 σ
    else
      g_Mo_readEntries_300 σ
set_option maxHeartbeats 4000000 in
theorem t_Mo_readEntries_270 {x1 : Int32} {x2 : Int32} {σ σ' : am_S} {r : Int32} (h : g_Mo_readEntries_270 x1 x2 σ = some (r, σ')) : am_A S_m M_Mo_readEntries (270, [some (.ref 0), some (.int x1), some (.int x2), none, none, none, none, none], [], σ) (am_r S_m (fun q τ => q = some (.int r) ∧ τ = σ')) := by
  unfold g_Mo_readEntries_270 at h
  refine a_iload_n i_Mo_readEntries_270 rfl ?_
  by_cases c2 : x2 = 0
  · rw [if_pos c2] at h
    refine a_ift i_Mo_readEntries_271 c2 ?_
    exact am_wk (t_Mo_readEntries_300 h) ⟨Or.inl rfl, Or.inl rfl, Or.inl rfl, Or.inl rfl, Or.inl rfl, Or.inl rfl, Or.inl rfl, Or.inl rfl, trivial⟩
  · rw [if_neg c2] at h
    refine a_iff i_Mo_readEntries_271 c2 ?_
    refine a_aload_n i_Mo_readEntries_274 rfl ?_
    refine a_get (v := .int (σ.1.1 0 8)) i_Mo_readEntries_275 rfl rfl ?_
    by_cases c5 : (σ.1.1 0 8) = 0
    · rw [if_pos c5] at h
      refine a_iff i_Mo_readEntries_278 c5 ?_
      refine a_aload_n i_Mo_readEntries_281 rfl ?_
      refine a_get (v := .int (σ.1.1 0 22)) i_Mo_readEntries_282 rfl rfl ?_
      refine a_iload_n i_Mo_readEntries_285 rfl ?_
      by_cases c9 : x1 < (σ.1.1 0 22)
      · rw [if_pos c9] at h
        refine a_icf i_Mo_readEntries_286 (Int32.not_le.mpr c9) ?_
        refine a_aload_n i_Mo_readEntries_289 rfl ?_
        refine a_get (v := .int (σ.1.1 0 23)) i_Mo_readEntries_290 rfl rfl ?_
        by_cases c12 : (σ.1.1 0 23) = 0
        · rw [if_pos c12] at h
          refine a_iff i_Mo_readEntries_293 c12 ?_
          refine a_iconst i_Mo_readEntries_296 ?_
          refine a_goto i_Mo_readEntries_297 ?_
          exact am_wk (t_Mo_readEntries_301 h) ⟨Or.inl rfl, Or.inl rfl, Or.inl rfl, Or.inl rfl, Or.inl rfl, Or.inl rfl, Or.inl rfl, Or.inl rfl, trivial⟩
        · rw [if_neg c12] at h
          refine a_ift i_Mo_readEntries_293 c12 ?_
          exact am_wk (t_Mo_readEntries_300 h) ⟨Or.inl rfl, Or.inl rfl, Or.inl rfl, Or.inl rfl, Or.inl rfl, Or.inl rfl, Or.inl rfl, Or.inl rfl, trivial⟩
      · rw [if_neg c9] at h
        refine a_ict i_Mo_readEntries_286 (Int32.not_lt.mp c9) ?_
        exact am_wk (t_Mo_readEntries_300 h) ⟨Or.inl rfl, Or.inl rfl, Or.inl rfl, Or.inl rfl, Or.inl rfl, Or.inl rfl, Or.inl rfl, Or.inl rfl, trivial⟩
    · rw [if_neg c5] at h
      refine a_ift i_Mo_readEntries_278 c5 ?_
      exact am_wk (t_Mo_readEntries_300 h) ⟨Or.inl rfl, Or.inl rfl, Or.inl rfl, Or.inl rfl, Or.inl rfl, Or.inl rfl, Or.inl rfl, Or.inl rfl, trivial⟩
def g_Mo_readEntries_12 : Nat → Int32 → Int32 → am_S → Option (Int32 × am_S)
  | 0, _, _, _ => none
  | n + 1, x1, x2, σ =>
  if x2 = 0 then
    g_Mo_readEntries_270 x1 x2 σ
  else
    if (σ.1.1 0 6) < (σ.1.1 0 7) then
      am_bd (g_Mo_leb (0) σ) fun v13 σ13 =>
      if (σ13.1.1 0 8) = 0 then
        if (lg_cmp v13 0) = 0 then
          g_Mo_readEntries_53 (g_Mo_readEntries_12 n) x1 (σ.1.1 0 6) v13 σ13
        else
          am_bd (g_Mo_abbreviation v13 σ13) fun v24 σ24 =>
          g_Mo_readEntries_63 (g_Mo_readEntries_12 n) x1 (σ.1.1 0 6) v13 v24 σ24
      else
        g_Mo_readEntries_53 (g_Mo_readEntries_12 n) x1 (σ.1.1 0 6) v13 σ13
    else
      g_Mo_readEntries_270 x1 x2 σ
set_option maxHeartbeats 4000000 in
theorem t_Mo_readEntries_12 : ∀ (n : Nat) {x1 : Int32} {x2 : Int32} {σ σ' : am_S} {r : Int32} (h : g_Mo_readEntries_12 n x1 x2 σ = some (r, σ')), am_A S_m M_Mo_readEntries (12, [some (.ref 0), some (.int x1), some (.int x2), none, none, none, none, none], [], σ) (am_r S_m (fun q τ => q = some (.int r) ∧ τ = σ')) := by
  intro n
  induction n with
  | zero =>
    intro x1 x2 σ σ' r h
    cases h
  | succ n ih =>
  intro x1 x2 σ σ' r h
  unfold g_Mo_readEntries_12 at h
  refine a_iload_n i_Mo_readEntries_12 rfl ?_
  by_cases c2 : x2 = 0
  · rw [if_pos c2] at h
    refine a_ift i_Mo_readEntries_13 c2 ?_
    exact t_Mo_readEntries_270 h
  · rw [if_neg c2] at h
    refine a_iff i_Mo_readEntries_13 c2 ?_
    refine a_aload_n i_Mo_readEntries_16 rfl ?_
    refine a_get (v := .int (σ.1.1 0 6)) i_Mo_readEntries_17 rfl rfl ?_
    refine a_aload_n i_Mo_readEntries_20 rfl ?_
    refine a_get (v := .int (σ.1.1 0 7)) i_Mo_readEntries_21 rfl rfl ?_
    by_cases c7 : (σ.1.1 0 6) < (σ.1.1 0 7)
    · rw [if_pos c7] at h
      refine a_icf i_Mo_readEntries_24 (Int32.not_le.mpr c7) ?_
      refine a_aload_n i_Mo_readEntries_27 rfl ?_
      refine a_get (v := .int (σ.1.1 0 6)) i_Mo_readEntries_28 rfl rfl ?_
      refine a_istore_n i_Mo_readEntries_31 rfl ?_
      refine a_aload_n i_Mo_readEntries_32 rfl ?_
      refine a_iconst i_Mo_readEntries_33 ?_
      obtain ⟨v13, σ13, e13, h⟩ := am_bd_some h
      refine am_cvd (rest := []) [.int 0] c_Mo_readEntries_34 ⟨by decide, _, rfl⟩ rfl (Nat.le_of_ble_eq_true rfl) (t_Mo_leb e13) ?_
      refine a_lstore i_Mo_readEntries_37 rfl ?_
      refine a_aload_n i_Mo_readEntries_39 rfl ?_
      refine a_get (v := .int (σ13.1.1 0 8)) i_Mo_readEntries_40 rfl rfl ?_
      by_cases c17 : (σ13.1.1 0 8) = 0
      · rw [if_pos c17] at h
        refine a_iff i_Mo_readEntries_43 c17 ?_
        refine a_lload i_Mo_readEntries_46 rfl ?_
        refine a_lconst i_Mo_readEntries_48 ?_
        refine a_lcmp i_Mo_readEntries_49 ?_
        by_cases c21 : (lg_cmp v13 0) = 0
        · rw [if_pos c21] at h
          refine a_iff i_Mo_readEntries_50 c21 ?_
          exact am_wk (t_Mo_readEntries_53 (fun h => ih h) h) ⟨Or.inr rfl, Or.inr rfl, Or.inl rfl, Or.inr rfl, Or.inr rfl, Or.inl rfl, Or.inl rfl, Or.inl rfl, trivial⟩
        · rw [if_neg c21] at h
          refine a_ift i_Mo_readEntries_50 c21 ?_
          refine a_aload_n i_Mo_readEntries_57 rfl ?_
          refine a_lload i_Mo_readEntries_58 rfl ?_
          obtain ⟨v24, σ24, e24, h⟩ := am_bd_some h
          refine am_cvd (rest := []) [.long v13] c_Mo_readEntries_60 ⟨by decide, _, rfl⟩ rfl (Nat.le_of_ble_eq_true rfl) (t_Mo_abbreviation e24) ?_
          exact am_wk (t_Mo_readEntries_63 (fun h => ih h) h) ⟨Or.inr rfl, Or.inr rfl, Or.inl rfl, Or.inr rfl, Or.inr rfl, Or.inl rfl, Or.inl rfl, Or.inl rfl, trivial⟩
      · rw [if_neg c17] at h
        refine a_ift i_Mo_readEntries_43 c17 ?_
        exact am_wk (t_Mo_readEntries_53 (fun h => ih h) h) ⟨Or.inr rfl, Or.inr rfl, Or.inl rfl, Or.inr rfl, Or.inr rfl, Or.inl rfl, Or.inl rfl, Or.inl rfl, trivial⟩
    · rw [if_neg c7] at h
      refine a_ict i_Mo_readEntries_24 (Int32.not_lt.mp c7) ?_
      exact t_Mo_readEntries_270 h
def g_Mo_readEntries (σ : am_S) : Option (Int32 × am_S) :=
  g_Mo_readEntries_12 4000 (σ.1.1 0 22) (1) (am_fi σ 0 23 0)
set_option maxHeartbeats 4000000 in
theorem t_Mo_readEntries_0 {σ σ' : am_S} {r : Int32} (h : g_Mo_readEntries σ = some (r, σ')) : am_A S_m M_Mo_readEntries (0, [some (.ref 0), none, none, none, none, none, none, none], [], σ) (am_r S_m (fun q τ => q = some (.int r) ∧ τ = σ')) := by
  unfold g_Mo_readEntries at h
  refine a_aload_n i_Mo_readEntries_0 rfl ?_
  refine a_get (v := .int (σ.1.1 0 22)) i_Mo_readEntries_1 rfl rfl ?_
  refine a_istore_n i_Mo_readEntries_4 rfl ?_
  refine a_aload_n i_Mo_readEntries_5 rfl ?_
  refine a_iconst i_Mo_readEntries_6 ?_
  refine a_puti i_Mo_readEntries_7 rfl trivial ?_
  refine a_iconst i_Mo_readEntries_10 ?_
  refine a_istore_n i_Mo_readEntries_11 rfl ?_
  exact t_Mo_readEntries_12 4000 h
theorem t_Mo_readEntries {σ σ' : am_S} {r : Int32} (h : g_Mo_readEntries σ = some (r, σ')) : am_Mt S_m M_Mo_readEntries [.ref 0] σ (fun q τ => q = some (.int r) ∧ τ = σ') :=
  am_M_of ok_Mo_readEntries (Nat.le_of_ble_eq_true rfl) (t_Mo_readEntries_0 h)
def g_Mo_readUnit_78 (σ : am_S) : Option (Int32 × am_S) :=
  some (0, σ)
set_option maxHeartbeats 4000000 in
theorem t_Mo_readUnit_78 {σ σ' : am_S} {r : Int32} (h : g_Mo_readUnit_78 σ = some (r, σ')) : am_A S_m M_Mo_readUnit (78, [none, none, none, none, none, none, none, none, none, none, none, none], [], σ) (am_r S_m (fun q τ => q = some (.int r) ∧ τ = σ')) := by
  unfold g_Mo_readUnit_78 at h
  refine a_iconst i_Mo_readUnit_78 ?_
  exact am_ret_z ok_Mo_readUnit rfl rfl (Or.inl rfl) (am_lf_i h)
def g_Mo_readUnit (x1 : Int32) (σ : am_S) : Option (Int32 × am_S) :=
  am_bd (g_Mo_u (2) σ) fun v6 σ6 =>
  am_bd (g_Mo_u (1) σ6) fun v10 σ10 =>
  am_bd (g_Mo_u (1) σ10) fun v14 σ14 =>
  am_bd (g_Mo_u (4) σ14) fun v18 σ18 =>
  if (σ18.1.1 0 8) = 0 then
    if (lg_cmp v6 5) = 0 then
      if (lg_cmp v10 1) = 0 then
        if (lg_cmp v14 8) = 0 then
          am_bd (g_Mo_readAbbreviations v18 σ18) fun v40 σ40 =>
          if v40 = 0 then
            g_Mo_readUnit_78 σ40
          else
            am_gd (inb (σ40.1.1 0 21) 4) <|
            am_gd (inb (σ40.1.1 0 21) 4) <|
            am_bd (g_Mo_readEntries (am_fi (am_ai (am_ai (am_fi (am_fi (am_fi σ40 0 6 (σ18.1.1 0 6)) 0 7 (σ.1.1 0 7)) 0 8 0) 13 (σ40.1.1 0 21).toNatClampNeg x1) 14 (σ40.1.1 0 21).toNatClampNeg (σ40.1.1 0 22)) 0 21 ((σ40.1.1 0 21) + 1))) fun v71 σ71 =>
            am_gd (z01 v71) <|
            some (v71, σ71)
        else
          g_Mo_readUnit_78 σ18
      else
        g_Mo_readUnit_78 σ18
    else
      g_Mo_readUnit_78 σ18
  else
    g_Mo_readUnit_78 σ18
set_option maxHeartbeats 4000000 in
theorem t_Mo_readUnit_0 {x1 : Int32} {σ σ' : am_S} {r : Int32} (h : g_Mo_readUnit x1 σ = some (r, σ')) : am_A S_m M_Mo_readUnit (0, [some (.ref 0), some (.int x1), none, none, none, none, none, none, none, none, none, none], [], σ) (am_r S_m (fun q τ => q = some (.int r) ∧ τ = σ')) := by
  unfold g_Mo_readUnit at h
  refine a_aload_n i_Mo_readUnit_0 rfl ?_
  refine a_get (v := .int (σ.1.1 0 7)) i_Mo_readUnit_1 rfl rfl ?_
  refine a_istore_n i_Mo_readUnit_4 rfl ?_
  refine a_aload_n i_Mo_readUnit_5 rfl ?_
  refine a_iconst i_Mo_readUnit_6 ?_
  obtain ⟨v6, σ6, e6, h⟩ := am_bd_some h
  refine am_cvd (rest := []) [.int 2] c_Mo_readUnit_7 ⟨by decide, _, rfl⟩ rfl (Nat.le_of_ble_eq_true rfl) (t_Mo_u e6) ?_
  refine a_lstore_n i_Mo_readUnit_10 rfl ?_
  refine a_aload_n i_Mo_readUnit_11 rfl ?_
  refine a_iconst i_Mo_readUnit_12 ?_
  obtain ⟨v10, σ10, e10, h⟩ := am_bd_some h
  refine am_cvd (rest := []) [.int 1] c_Mo_readUnit_13 ⟨by decide, _, rfl⟩ rfl (Nat.le_of_ble_eq_true rfl) (t_Mo_u e10) ?_
  refine a_lstore i_Mo_readUnit_16 rfl ?_
  refine a_aload_n i_Mo_readUnit_18 rfl ?_
  refine a_iconst i_Mo_readUnit_19 ?_
  obtain ⟨v14, σ14, e14, h⟩ := am_bd_some h
  refine am_cvd (rest := []) [.int 1] c_Mo_readUnit_20 ⟨by decide, _, rfl⟩ rfl (Nat.le_of_ble_eq_true rfl) (t_Mo_u e14) ?_
  refine a_lstore i_Mo_readUnit_23 rfl ?_
  refine a_aload_n i_Mo_readUnit_25 rfl ?_
  refine a_iconst i_Mo_readUnit_26 ?_
  obtain ⟨v18, σ18, e18, h⟩ := am_bd_some h
  refine am_cvd (rest := []) [.int 4] c_Mo_readUnit_27 ⟨by decide, _, rfl⟩ rfl (Nat.le_of_ble_eq_true rfl) (t_Mo_u e18) ?_
  refine a_lstore i_Mo_readUnit_30 rfl ?_
  refine a_aload_n i_Mo_readUnit_32 rfl ?_
  refine a_get (v := .int (σ18.1.1 0 6)) i_Mo_readUnit_33 rfl rfl ?_
  refine a_istore i_Mo_readUnit_36 rfl ?_
  refine a_aload_n i_Mo_readUnit_38 rfl ?_
  refine a_get (v := .int (σ18.1.1 0 8)) i_Mo_readUnit_39 rfl rfl ?_
  by_cases c25 : (σ18.1.1 0 8) = 0
  · rw [if_pos c25] at h
    refine a_iff i_Mo_readUnit_42 c25 ?_
    refine a_lload_n i_Mo_readUnit_45 rfl ?_
    refine a_ldc2 i_Mo_readUnit_46 ?_
    refine a_lcmp i_Mo_readUnit_49 ?_
    by_cases c29 : (lg_cmp v6 5) = 0
    · rw [if_pos c29] at h
      refine a_iff i_Mo_readUnit_50 c29 ?_
      refine a_lload i_Mo_readUnit_53 rfl ?_
      refine a_lconst i_Mo_readUnit_55 ?_
      refine a_lcmp i_Mo_readUnit_56 ?_
      by_cases c33 : (lg_cmp v10 1) = 0
      · rw [if_pos c33] at h
        refine a_iff i_Mo_readUnit_57 c33 ?_
        refine a_lload i_Mo_readUnit_60 rfl ?_
        refine a_ldc2 i_Mo_readUnit_62 ?_
        refine a_lcmp i_Mo_readUnit_65 ?_
        by_cases c37 : (lg_cmp v14 8) = 0
        · rw [if_pos c37] at h
          refine a_iff i_Mo_readUnit_66 c37 ?_
          refine a_aload_n i_Mo_readUnit_69 rfl ?_
          refine a_lload i_Mo_readUnit_70 rfl ?_
          obtain ⟨v40, σ40, e40, h⟩ := am_bd_some h
          refine am_cvd (rest := []) [.long v18] c_Mo_readUnit_72 ⟨by decide, _, rfl⟩ rfl (Nat.le_of_ble_eq_true rfl) (t_Mo_readAbbreviations e40) ?_
          by_cases c41 : v40 = 0
          · rw [if_pos c41] at h
            refine a_iff i_Mo_readUnit_75 c41 ?_
            exact am_wk (t_Mo_readUnit_78 h) ⟨Or.inl rfl, Or.inl rfl, Or.inl rfl, Or.inl rfl, Or.inl rfl, Or.inl rfl, Or.inl rfl, Or.inl rfl, Or.inl rfl, Or.inl rfl, Or.inl rfl, Or.inl rfl, trivial⟩
          · rw [if_neg c41] at h
            refine a_ift i_Mo_readUnit_75 c41 ?_
            refine a_aload_n i_Mo_readUnit_80 rfl ?_
            refine a_iload i_Mo_readUnit_81 rfl ?_
            refine a_puti i_Mo_readUnit_83 rfl trivial ?_
            refine a_aload_n i_Mo_readUnit_86 rfl ?_
            refine a_iload_n i_Mo_readUnit_87 rfl ?_
            refine a_puti i_Mo_readUnit_88 rfl trivial ?_
            refine a_aload_n i_Mo_readUnit_91 rfl ?_
            refine a_iconst i_Mo_readUnit_92 ?_
            refine a_puti i_Mo_readUnit_93 rfl (Or.inl rfl) ?_
            refine a_aload_n i_Mo_readUnit_96 rfl ?_
            refine a_get (v := .ref 13) i_Mo_readUnit_97 rfl rfl ?_
            refine a_aload_n i_Mo_readUnit_100 rfl ?_
            refine a_get (v := .int (σ40.1.1 0 21)) i_Mo_readUnit_101 rfl rfl ?_
            refine a_iload_n i_Mo_readUnit_104 rfl ?_
            obtain ⟨c56, h⟩ := gd_some h
            refine a_ias (n := 4) i_Mo_readUnit_105 rfl rfl (inb_in c56) ?_
            refine a_aload_n i_Mo_readUnit_106 rfl ?_
            refine a_get (v := .ref 14) i_Mo_readUnit_107 rfl rfl ?_
            refine a_aload_n i_Mo_readUnit_110 rfl ?_
            refine a_get (v := .int (σ40.1.1 0 21)) i_Mo_readUnit_111 rfl rfl ?_
            refine a_aload_n i_Mo_readUnit_114 rfl ?_
            refine a_get (v := .int (σ40.1.1 0 22)) i_Mo_readUnit_115 rfl rfl ?_
            obtain ⟨c63, h⟩ := gd_some h
            refine a_ias (n := 4) i_Mo_readUnit_118 rfl rfl (inb_in c63) ?_
            refine a_aload_n i_Mo_readUnit_119 rfl ?_
            refine a_dup_a i_Mo_readUnit_120 ?_
            refine a_get (v := .int (σ40.1.1 0 21)) i_Mo_readUnit_121 rfl rfl ?_
            refine a_iconst i_Mo_readUnit_124 ?_
            refine a_iadd i_Mo_readUnit_125 ?_
            refine a_puti i_Mo_readUnit_126 rfl trivial ?_
            refine a_aload_n i_Mo_readUnit_129 rfl ?_
            obtain ⟨v71, σ71, e71, h⟩ := am_bd_some h
            refine am_cvd (rest := []) [] c_Mo_readUnit_130 ⟨by decide, _, rfl⟩ rfl (Nat.le_of_ble_eq_true rfl) (t_Mo_readEntries e71) ?_
            obtain ⟨c72, h⟩ := gd_some h
            exact am_ret_z ok_Mo_readUnit rfl rfl (z01_or c72) (am_lf_i h)
        · rw [if_neg c37] at h
          refine a_ift i_Mo_readUnit_66 c37 ?_
          exact am_wk (t_Mo_readUnit_78 h) ⟨Or.inl rfl, Or.inl rfl, Or.inl rfl, Or.inl rfl, Or.inl rfl, Or.inl rfl, Or.inl rfl, Or.inl rfl, Or.inl rfl, Or.inl rfl, Or.inl rfl, Or.inl rfl, trivial⟩
      · rw [if_neg c33] at h
        refine a_ift i_Mo_readUnit_57 c33 ?_
        exact am_wk (t_Mo_readUnit_78 h) ⟨Or.inl rfl, Or.inl rfl, Or.inl rfl, Or.inl rfl, Or.inl rfl, Or.inl rfl, Or.inl rfl, Or.inl rfl, Or.inl rfl, Or.inl rfl, Or.inl rfl, Or.inl rfl, trivial⟩
    · rw [if_neg c29] at h
      refine a_ift i_Mo_readUnit_50 c29 ?_
      exact am_wk (t_Mo_readUnit_78 h) ⟨Or.inl rfl, Or.inl rfl, Or.inl rfl, Or.inl rfl, Or.inl rfl, Or.inl rfl, Or.inl rfl, Or.inl rfl, Or.inl rfl, Or.inl rfl, Or.inl rfl, Or.inl rfl, trivial⟩
  · rw [if_neg c25] at h
    refine a_ift i_Mo_readUnit_42 c25 ?_
    exact am_wk (t_Mo_readUnit_78 h) ⟨Or.inl rfl, Or.inl rfl, Or.inl rfl, Or.inl rfl, Or.inl rfl, Or.inl rfl, Or.inl rfl, Or.inl rfl, Or.inl rfl, Or.inl rfl, Or.inl rfl, Or.inl rfl, trivial⟩
theorem t_Mo_readUnit {x1 : Int32} {σ σ' : am_S} {r : Int32} (h : g_Mo_readUnit x1 σ = some (r, σ')) : am_Mt S_m M_Mo_readUnit [.ref 0, .int x1] σ (fun q τ => q = some (.int r) ∧ τ = σ') :=
  am_M_of ok_Mo_readUnit (Nat.le_of_ble_eq_true rfl) (t_Mo_readUnit_0 h)
def g_Mo_readUnits_115 (go : Int32 → Int32 → Int32 → am_S → Option (Int32 × am_S)) (x1 : Int32) (x2 : Int32) (x3 : Int32) (σ : am_S) : Option (Int32 × am_S) :=
  go x1 x2 x3 σ
set_option maxHeartbeats 4000000 in
theorem t_Mo_readUnits_115 {x1 : Int32} {x2 : Int32} {x3 : Int32} {σ σ' : am_S} {r : Int32} {go : Int32 → Int32 → Int32 → am_S → Option (Int32 × am_S)} (hgo : ∀ {x1 : Int32} {x2 : Int32} {x3 : Int32} {σ σ' : am_S} {r : Int32}, go x1 x2 x3 σ = some (r, σ') → am_A S_m M_Mo_readUnits (23, [some (.ref 0), some (.int x1), some (.int x2), some (.int x3), none, none], [], σ) (am_r S_m (fun q τ => q = some (.int r) ∧ τ = σ'))) (h : g_Mo_readUnits_115 go x1 x2 x3 σ = some (r, σ')) : am_A S_m M_Mo_readUnits (115, [some (.ref 0), some (.int x1), some (.int x2), some (.int x3), none, none], [], σ) (am_r S_m (fun q τ => q = some (.int r) ∧ τ = σ')) := by
  unfold g_Mo_readUnits_115 at h
  refine a_goto i_Mo_readUnits_115 ?_
  exact hgo h
def g_Mo_readUnits_87 (go : Int32 → Int32 → Int32 → am_S → Option (Int32 × am_S)) (x1 : Int32) (x2 : Int32) (x4 : Int64) (y0 : Int32) (σ : am_S) : Option (Int32 × am_S) :=
  if y0 = 0 then
    g_Mo_readUnits_115 go x1 x2 y0 σ
  else
    am_bd (g_Mo_readUnit x2 (am_fi σ 0 7 ((σ.1.1 0 6) + x4.toInt32))) fun v13 σ13 =>
    g_Mo_readUnits_115 go x1 (σ13.1.1 0 7) v13 σ13
set_option maxHeartbeats 4000000 in
theorem t_Mo_readUnits_87 {x1 : Int32} {x2 : Int32} {x4 : Int64} {y0 : Int32} {σ σ' : am_S} {r : Int32} {go : Int32 → Int32 → Int32 → am_S → Option (Int32 × am_S)} (hgo : ∀ {x1 : Int32} {x2 : Int32} {x3 : Int32} {σ σ' : am_S} {r : Int32}, go x1 x2 x3 σ = some (r, σ') → am_A S_m M_Mo_readUnits (23, [some (.ref 0), some (.int x1), some (.int x2), some (.int x3), none, none], [], σ) (am_r S_m (fun q τ => q = some (.int r) ∧ τ = σ'))) (h : g_Mo_readUnits_87 go x1 x2 x4 y0 σ = some (r, σ')) : am_A S_m M_Mo_readUnits (87, [some (.ref 0), some (.int x1), some (.int x2), none, some (.long x4), none], [.int y0], σ) (am_r S_m (fun q τ => q = some (.int r) ∧ τ = σ')) := by
  unfold g_Mo_readUnits_87 at h
  refine a_istore_n i_Mo_readUnits_87 rfl ?_
  refine a_iload_n i_Mo_readUnits_88 rfl ?_
  by_cases c3 : y0 = 0
  · rw [if_pos c3] at h
    refine a_ift i_Mo_readUnits_89 c3 ?_
    exact am_wk (t_Mo_readUnits_115 hgo h) ⟨Or.inr rfl, Or.inr rfl, Or.inr rfl, Or.inr rfl, Or.inl rfl, Or.inl rfl, trivial⟩
  · rw [if_neg c3] at h
    refine a_iff i_Mo_readUnits_89 c3 ?_
    refine a_aload_n i_Mo_readUnits_92 rfl ?_
    refine a_aload_n i_Mo_readUnits_93 rfl ?_
    refine a_get (v := .int (σ.1.1 0 6)) i_Mo_readUnits_94 rfl rfl ?_
    refine a_lload i_Mo_readUnits_97 rfl ?_
    refine a_l2i i_Mo_readUnits_99 ?_
    refine a_iadd i_Mo_readUnits_100 ?_
    refine a_puti i_Mo_readUnits_101 rfl trivial ?_
    refine a_aload_n i_Mo_readUnits_104 rfl ?_
    refine a_iload_n i_Mo_readUnits_105 rfl ?_
    obtain ⟨v13, σ13, e13, h⟩ := am_bd_some h
    refine am_cvd (rest := []) [.int x2] c_Mo_readUnits_106 ⟨by decide, _, rfl⟩ rfl (Nat.le_of_ble_eq_true rfl) (t_Mo_readUnit e13) ?_
    refine a_istore_n i_Mo_readUnits_109 rfl ?_
    refine a_aload_n i_Mo_readUnits_110 rfl ?_
    refine a_get (v := .int (σ13.1.1 0 7)) i_Mo_readUnits_111 rfl rfl ?_
    refine a_istore_n i_Mo_readUnits_114 rfl ?_
    exact am_wk (t_Mo_readUnits_115 hgo h) ⟨Or.inr rfl, Or.inr rfl, Or.inr rfl, Or.inr rfl, Or.inl rfl, Or.inl rfl, trivial⟩
def g_Mo_readUnits_86 (go : Int32 → Int32 → Int32 → am_S → Option (Int32 × am_S)) (x1 : Int32) (x2 : Int32) (x4 : Int64) (σ : am_S) : Option (Int32 × am_S) :=
  g_Mo_readUnits_87 go x1 x2 x4 (0) σ
set_option maxHeartbeats 4000000 in
theorem t_Mo_readUnits_86 {x1 : Int32} {x2 : Int32} {x4 : Int64} {σ σ' : am_S} {r : Int32} {go : Int32 → Int32 → Int32 → am_S → Option (Int32 × am_S)} (hgo : ∀ {x1 : Int32} {x2 : Int32} {x3 : Int32} {σ σ' : am_S} {r : Int32}, go x1 x2 x3 σ = some (r, σ') → am_A S_m M_Mo_readUnits (23, [some (.ref 0), some (.int x1), some (.int x2), some (.int x3), none, none], [], σ) (am_r S_m (fun q τ => q = some (.int r) ∧ τ = σ'))) (h : g_Mo_readUnits_86 go x1 x2 x4 σ = some (r, σ')) : am_A S_m M_Mo_readUnits (86, [some (.ref 0), some (.int x1), some (.int x2), none, some (.long x4), none], [], σ) (am_r S_m (fun q τ => q = some (.int r) ∧ τ = σ')) := by
  unfold g_Mo_readUnits_86 at h
  refine a_iconst i_Mo_readUnits_86 ?_
  exact t_Mo_readUnits_87 hgo h
def g_Mo_readUnits_118 (x3 : Int32) (σ : am_S) : Option (Int32 × am_S) :=
  am_gd (z01 x3) <|
  some (x3, σ)
set_option maxHeartbeats 4000000 in
theorem t_Mo_readUnits_118 {x3 : Int32} {σ σ' : am_S} {r : Int32} (h : g_Mo_readUnits_118 x3 σ = some (r, σ')) : am_A S_m M_Mo_readUnits (118, [none, none, none, some (.int x3), none, none], [], σ) (am_r S_m (fun q τ => q = some (.int r) ∧ τ = σ')) := by
  unfold g_Mo_readUnits_118 at h
  refine a_iload_n i_Mo_readUnits_118 rfl ?_
  obtain ⟨c2, h⟩ := gd_some h
  exact am_ret_z ok_Mo_readUnits rfl rfl (z01_or c2) (am_lf_i h)
def g_Mo_readUnits_23 : Nat → Int32 → Int32 → Int32 → am_S → Option (Int32 × am_S)
  | 0, _, _, _, _ => none
  | n + 1, x1, x2, x3, σ =>
  if x3 = 0 then
    g_Mo_readUnits_118 x3 σ
  else
    if x2 < x1 then
      am_bd (g_Mo_u (4) (am_fi (am_fi (am_fi σ 0 6 x2) 0 7 x1) 0 8 0)) fun v17 σ17 =>
      if (σ17.1.1 0 21) < 4 then
        if (σ17.1.1 0 8) = 0 then
          if 0 < (lg_cmp v17 ((x1 - (σ17.1.1 0 6)).toInt64)) then
            g_Mo_readUnits_86 (g_Mo_readUnits_23 n) x1 x2 v17 σ17
          else
            g_Mo_readUnits_87 (g_Mo_readUnits_23 n) x1 x2 v17 (1) σ17
        else
          g_Mo_readUnits_86 (g_Mo_readUnits_23 n) x1 x2 v17 σ17
      else
        g_Mo_readUnits_86 (g_Mo_readUnits_23 n) x1 x2 v17 σ17
    else
      g_Mo_readUnits_118 x3 σ
set_option maxHeartbeats 4000000 in
theorem t_Mo_readUnits_23 : ∀ (n : Nat) {x1 : Int32} {x2 : Int32} {x3 : Int32} {σ σ' : am_S} {r : Int32} (h : g_Mo_readUnits_23 n x1 x2 x3 σ = some (r, σ')), am_A S_m M_Mo_readUnits (23, [some (.ref 0), some (.int x1), some (.int x2), some (.int x3), none, none], [], σ) (am_r S_m (fun q τ => q = some (.int r) ∧ τ = σ')) := by
  intro n
  induction n with
  | zero =>
    intro x1 x2 x3 σ σ' r h
    cases h
  | succ n ih =>
  intro x1 x2 x3 σ σ' r h
  unfold g_Mo_readUnits_23 at h
  refine a_iload_n i_Mo_readUnits_23 rfl ?_
  by_cases c2 : x3 = 0
  · rw [if_pos c2] at h
    refine a_ift i_Mo_readUnits_24 c2 ?_
    exact am_wk (t_Mo_readUnits_118 h) ⟨Or.inl rfl, Or.inl rfl, Or.inl rfl, Or.inr rfl, Or.inl rfl, Or.inl rfl, trivial⟩
  · rw [if_neg c2] at h
    refine a_iff i_Mo_readUnits_24 c2 ?_
    refine a_iload_n i_Mo_readUnits_27 rfl ?_
    refine a_iload_n i_Mo_readUnits_28 rfl ?_
    by_cases c5 : x2 < x1
    · rw [if_pos c5] at h
      refine a_icf i_Mo_readUnits_29 (Int32.not_le.mpr c5) ?_
      refine a_aload_n i_Mo_readUnits_32 rfl ?_
      refine a_iload_n i_Mo_readUnits_33 rfl ?_
      refine a_puti i_Mo_readUnits_34 rfl trivial ?_
      refine a_aload_n i_Mo_readUnits_37 rfl ?_
      refine a_iload_n i_Mo_readUnits_38 rfl ?_
      refine a_puti i_Mo_readUnits_39 rfl trivial ?_
      refine a_aload_n i_Mo_readUnits_42 rfl ?_
      refine a_iconst i_Mo_readUnits_43 ?_
      refine a_puti i_Mo_readUnits_44 rfl (Or.inl rfl) ?_
      refine a_aload_n i_Mo_readUnits_47 rfl ?_
      refine a_iconst i_Mo_readUnits_48 ?_
      obtain ⟨v17, σ17, e17, h⟩ := am_bd_some h
      refine am_cvd (rest := []) [.int 4] c_Mo_readUnits_49 ⟨by decide, _, rfl⟩ rfl (Nat.le_of_ble_eq_true rfl) (t_Mo_u e17) ?_
      refine a_lstore i_Mo_readUnits_52 rfl ?_
      refine a_aload_n i_Mo_readUnits_54 rfl ?_
      refine a_get (v := .int (σ17.1.1 0 21)) i_Mo_readUnits_55 rfl rfl ?_
      refine a_iconst i_Mo_readUnits_58 ?_
      by_cases c22 : (σ17.1.1 0 21) < 4
      · rw [if_pos c22] at h
        refine a_icf i_Mo_readUnits_59 (Int32.not_le.mpr c22) ?_
        refine a_aload_n i_Mo_readUnits_62 rfl ?_
        refine a_get (v := .int (σ17.1.1 0 8)) i_Mo_readUnits_63 rfl rfl ?_
        by_cases c25 : (σ17.1.1 0 8) = 0
        · rw [if_pos c25] at h
          refine a_iff i_Mo_readUnits_66 c25 ?_
          refine a_lload i_Mo_readUnits_69 rfl ?_
          refine a_iload_n i_Mo_readUnits_71 rfl ?_
          refine a_aload_n i_Mo_readUnits_72 rfl ?_
          refine a_get (v := .int (σ17.1.1 0 6)) i_Mo_readUnits_73 rfl rfl ?_
          refine a_isub i_Mo_readUnits_76 ?_
          refine a_i2l i_Mo_readUnits_77 ?_
          refine a_lcmp i_Mo_readUnits_78 ?_
          by_cases c33 : 0 < (lg_cmp v17 ((x1 - (σ17.1.1 0 6)).toInt64))
          · rw [if_pos c33] at h
            refine a_ift i_Mo_readUnits_79 c33 ?_
            exact am_wk (t_Mo_readUnits_86 (fun h => ih h) h) ⟨Or.inr rfl, Or.inr rfl, Or.inr rfl, Or.inl rfl, Or.inr rfl, Or.inl rfl, trivial⟩
          · rw [if_neg c33] at h
            refine a_iff i_Mo_readUnits_79 c33 ?_
            refine a_iconst i_Mo_readUnits_82 ?_
            refine a_goto i_Mo_readUnits_83 ?_
            exact am_wk (t_Mo_readUnits_87 (fun h => ih h) h) ⟨Or.inr rfl, Or.inr rfl, Or.inr rfl, Or.inl rfl, Or.inr rfl, Or.inl rfl, trivial⟩
        · rw [if_neg c25] at h
          refine a_ift i_Mo_readUnits_66 c25 ?_
          exact am_wk (t_Mo_readUnits_86 (fun h => ih h) h) ⟨Or.inr rfl, Or.inr rfl, Or.inr rfl, Or.inl rfl, Or.inr rfl, Or.inl rfl, trivial⟩
      · rw [if_neg c22] at h
        refine a_ict i_Mo_readUnits_59 (Int32.not_lt.mp c22) ?_
        exact am_wk (t_Mo_readUnits_86 (fun h => ih h) h) ⟨Or.inr rfl, Or.inr rfl, Or.inr rfl, Or.inl rfl, Or.inr rfl, Or.inl rfl, trivial⟩
    · rw [if_neg c5] at h
      refine a_ict i_Mo_readUnits_29 (Int32.not_lt.mp c5) ?_
      exact am_wk (t_Mo_readUnits_118 h) ⟨Or.inl rfl, Or.inl rfl, Or.inl rfl, Or.inr rfl, Or.inl rfl, Or.inl rfl, trivial⟩
def g_Mo_readUnits (σ : am_S) : Option (Int32 × am_S) :=
  am_gd (inb 1 10) <|
  am_gd (inb 1 10) <|
  am_gd (inb 1 10) <|
  g_Mo_readUnits_23 4000 ((σ.2.1 3 (1 : Int32).toNatClampNeg) + (σ.2.1 4 (1 : Int32).toNatClampNeg)) (σ.2.1 3 (1 : Int32).toNatClampNeg) (1) σ
set_option maxHeartbeats 4000000 in
theorem t_Mo_readUnits_0 {σ σ' : am_S} {r : Int32} (h : g_Mo_readUnits σ = some (r, σ')) : am_A S_m M_Mo_readUnits (0, [some (.ref 0), none, none, none, none, none], [], σ) (am_r S_m (fun q τ => q = some (.int r) ∧ τ = σ')) := by
  unfold g_Mo_readUnits at h
  refine a_aload_n i_Mo_readUnits_0 rfl ?_
  refine a_get (v := .ref 3) i_Mo_readUnits_1 rfl rfl ?_
  refine a_iconst i_Mo_readUnits_4 ?_
  obtain ⟨c4, h⟩ := gd_some h
  refine a_ial (n := 10) i_Mo_readUnits_5 (by decide) rfl rfl (inb_in c4) ?_
  refine a_aload_n i_Mo_readUnits_6 rfl ?_
  refine a_get (v := .ref 4) i_Mo_readUnits_7 rfl rfl ?_
  refine a_iconst i_Mo_readUnits_10 ?_
  obtain ⟨c8, h⟩ := gd_some h
  refine a_ial (n := 10) i_Mo_readUnits_11 (by decide) rfl rfl (inb_in c8) ?_
  refine a_iadd i_Mo_readUnits_12 ?_
  refine a_istore_n i_Mo_readUnits_13 rfl ?_
  refine a_aload_n i_Mo_readUnits_14 rfl ?_
  refine a_get (v := .ref 3) i_Mo_readUnits_15 rfl rfl ?_
  refine a_iconst i_Mo_readUnits_18 ?_
  obtain ⟨c14, h⟩ := gd_some h
  refine a_ial (n := 10) i_Mo_readUnits_19 (by decide) rfl rfl (inb_in c14) ?_
  refine a_istore_n i_Mo_readUnits_20 rfl ?_
  refine a_iconst i_Mo_readUnits_21 ?_
  refine a_istore_n i_Mo_readUnits_22 rfl ?_
  exact t_Mo_readUnits_23 4000 h
theorem t_Mo_readUnits {σ σ' : am_S} {r : Int32} (h : g_Mo_readUnits σ = some (r, σ')) : am_Mt S_m M_Mo_readUnits [.ref 0] σ (fun q τ => q = some (.int r) ∧ τ = σ') :=
  am_M_of ok_Mo_readUnits (Nat.le_of_ble_eq_true rfl) (t_Mo_readUnits_0 h)
def g_Mo_formAt (x1 : Int32) (x2 : Int32) (σ : am_S) : Option (Int32 × am_S) :=
  am_gd (inb ((11 * x1) + x2) 2200) <|
  some (σ.2.1 20 ((11 * x1) + x2).toNatClampNeg, σ)
set_option maxHeartbeats 4000000 in
theorem t_Mo_formAt_0 {x1 : Int32} {x2 : Int32} {σ σ' : am_S} {r : Int32} (h : g_Mo_formAt x1 x2 σ = some (r, σ')) : am_A S_m M_Mo_formAt (0, [some (.ref 0), some (.int x1), some (.int x2)], [], σ) (am_r S_m (fun q τ => q = some (.int r) ∧ τ = σ')) := by
  unfold g_Mo_formAt at h
  refine a_aload_n i_Mo_formAt_0 rfl ?_
  refine a_get (v := .ref 20) i_Mo_formAt_1 rfl rfl ?_
  refine a_bipush i_Mo_formAt_4 ?_
  refine a_iload_n i_Mo_formAt_6 rfl ?_
  refine a_imul i_Mo_formAt_7 ?_
  refine a_iload_n i_Mo_formAt_8 rfl ?_
  refine a_iadd i_Mo_formAt_9 ?_
  obtain ⟨c8, h⟩ := gd_some h
  refine a_ial (n := 2200) i_Mo_formAt_10 (by decide) rfl rfl (inb_in c8) ?_
  exact am_ret_i ok_Mo_formAt rfl rfl (am_lf_i h)
theorem t_Mo_formAt {x1 : Int32} {x2 : Int32} {σ σ' : am_S} {r : Int32} (h : g_Mo_formAt x1 x2 σ = some (r, σ')) : am_Mt S_m M_Mo_formAt [.ref 0, .int x1, .int x2] σ (fun q τ => q = some (.int r) ∧ τ = σ') :=
  am_M_of ok_Mo_formAt (Nat.le_of_ble_eq_true rfl) (t_Mo_formAt_0 h)
def g_Mo_has_19 (y0 : Int32) (σ : am_S) : Option (Int32 × am_S) :=
  am_gd (z01 y0) <|
  some (y0, σ)
set_option maxHeartbeats 4000000 in
theorem t_Mo_has_19 {y0 : Int32} {σ σ' : am_S} {r : Int32} (h : g_Mo_has_19 y0 σ = some (r, σ')) : am_A S_m M_Mo_has (19, [none, none, none], [.int y0], σ) (am_r S_m (fun q τ => q = some (.int r) ∧ τ = σ')) := by
  unfold g_Mo_has_19 at h
  obtain ⟨c1, h⟩ := gd_some h
  exact am_ret_z ok_Mo_has rfl rfl (z01_or c1) (am_lf_i h)
def g_Mo_has (x1 : Int32) (x2 : Int32) (σ : am_S) : Option (Int32 × am_S) :=
  am_gd (inb ((11 * x1) + x2) 2200) <|
  if 0 < (σ.2.1 20 ((11 * x1) + x2).toNatClampNeg) then
    g_Mo_has_19 (1) σ
  else
    g_Mo_has_19 (0) σ
set_option maxHeartbeats 4000000 in
theorem t_Mo_has_0 {x1 : Int32} {x2 : Int32} {σ σ' : am_S} {r : Int32} (h : g_Mo_has x1 x2 σ = some (r, σ')) : am_A S_m M_Mo_has (0, [some (.ref 0), some (.int x1), some (.int x2)], [], σ) (am_r S_m (fun q τ => q = some (.int r) ∧ τ = σ')) := by
  unfold g_Mo_has at h
  refine a_aload_n i_Mo_has_0 rfl ?_
  refine a_get (v := .ref 20) i_Mo_has_1 rfl rfl ?_
  refine a_bipush i_Mo_has_4 ?_
  refine a_iload_n i_Mo_has_6 rfl ?_
  refine a_imul i_Mo_has_7 ?_
  refine a_iload_n i_Mo_has_8 rfl ?_
  refine a_iadd i_Mo_has_9 ?_
  obtain ⟨c8, h⟩ := gd_some h
  refine a_ial (n := 2200) i_Mo_has_10 (by decide) rfl rfl (inb_in c8) ?_
  by_cases c9 : 0 < (σ.2.1 20 ((11 * x1) + x2).toNatClampNeg)
  · rw [if_pos c9] at h
    refine a_iff i_Mo_has_11 (Int32.not_le.mpr c9) ?_
    refine a_iconst i_Mo_has_14 ?_
    refine a_goto i_Mo_has_15 ?_
    exact am_wk (t_Mo_has_19 h) ⟨Or.inl rfl, Or.inl rfl, Or.inl rfl, trivial⟩
  · rw [if_neg c9] at h
    refine a_ift i_Mo_has_11 (Int32.not_lt.mp c9) ?_
    refine a_iconst i_Mo_has_18 ?_
    exact am_wk (t_Mo_has_19 h) ⟨Or.inl rfl, Or.inl rfl, Or.inl rfl, trivial⟩
theorem t_Mo_has {x1 : Int32} {x2 : Int32} {σ σ' : am_S} {r : Int32} (h : g_Mo_has x1 x2 σ = some (r, σ')) : am_Mt S_m M_Mo_has [.ref 0, .int x1, .int x2] σ (fun q τ => q = some (.int r) ∧ τ = σ') :=
  am_M_of ok_Mo_has (Nat.le_of_ble_eq_true rfl) (t_Mo_has_0 h)
def g_Mo_valueAt (x1 : Int32) (x2 : Int32) (σ : am_S) : Option (Int64 × am_S) :=
  am_gd (inb ((11 * x1) + x2) 2200) <|
  some (σ.2.2 21 ((11 * x1) + x2).toNatClampNeg, σ)
set_option maxHeartbeats 4000000 in
theorem t_Mo_valueAt_0 {x1 : Int32} {x2 : Int32} {σ σ' : am_S} {r : Int64} (h : g_Mo_valueAt x1 x2 σ = some (r, σ')) : am_A S_m M_Mo_valueAt (0, [some (.ref 0), some (.int x1), some (.int x2)], [], σ) (am_r S_m (fun q τ => q = some (.long r) ∧ τ = σ')) := by
  unfold g_Mo_valueAt at h
  refine a_aload_n i_Mo_valueAt_0 rfl ?_
  refine a_get (v := .ref 21) i_Mo_valueAt_1 rfl rfl ?_
  refine a_bipush i_Mo_valueAt_4 ?_
  refine a_iload_n i_Mo_valueAt_6 rfl ?_
  refine a_imul i_Mo_valueAt_7 ?_
  refine a_iload_n i_Mo_valueAt_8 rfl ?_
  refine a_iadd i_Mo_valueAt_9 ?_
  obtain ⟨c8, h⟩ := gd_some h
  refine a_lal (n := 2200) i_Mo_valueAt_10 rfl rfl (inb_in c8) ?_
  exact am_ret_l ok_Mo_valueAt rfl rfl (am_lf_l h)
theorem t_Mo_valueAt {x1 : Int32} {x2 : Int32} {σ σ' : am_S} {r : Int64} (h : g_Mo_valueAt x1 x2 σ = some (r, σ')) : am_Mt S_m M_Mo_valueAt [.ref 0, .int x1, .int x2] σ (fun q τ => q = some (.long r) ∧ τ = σ') :=
  am_M_of ok_Mo_valueAt (Nat.le_of_ble_eq_true rfl) (t_Mo_valueAt_0 h)
def g_Mo_isConstant_52 (y0 : Int32) (σ : am_S) : Option (Int32 × am_S) :=
  am_gd (z01 y0) <|
  some (y0, σ)
set_option maxHeartbeats 4000000 in
theorem t_Mo_isConstant_52 {y0 : Int32} {σ σ' : am_S} {r : Int32} (h : g_Mo_isConstant_52 y0 σ = some (r, σ')) : am_A S_m M_Mo_isConstant (52, [none], [.int y0], σ) (am_r S_m (fun q τ => q = some (.int r) ∧ τ = σ')) := by
  unfold g_Mo_isConstant_52 at h
  obtain ⟨c1, h⟩ := gd_some h
  exact am_ret_z ok_Mo_isConstant rfl rfl (z01_or c1) (am_lf_i h)
def g_Mo_isConstant_47 (σ : am_S) : Option (Int32 × am_S) :=
  g_Mo_isConstant_52 (1) σ
set_option maxHeartbeats 4000000 in
theorem t_Mo_isConstant_47 {σ σ' : am_S} {r : Int32} (h : g_Mo_isConstant_47 σ = some (r, σ')) : am_A S_m M_Mo_isConstant (47, [none], [], σ) (am_r S_m (fun q τ => q = some (.int r) ∧ τ = σ')) := by
  unfold g_Mo_isConstant_47 at h
  refine a_iconst i_Mo_isConstant_47 ?_
  refine a_goto i_Mo_isConstant_48 ?_
  exact t_Mo_isConstant_52 h
def g_Mo_isConstant (x0 : Int32) (σ : am_S) : Option (Int32 × am_S) :=
  if x0 = 11 then
    g_Mo_isConstant_47 σ
  else
    if x0 = 5 then
      g_Mo_isConstant_47 σ
    else
      if x0 = 6 then
        g_Mo_isConstant_47 σ
      else
        if x0 = 7 then
          g_Mo_isConstant_47 σ
        else
          if x0 = 13 then
            g_Mo_isConstant_47 σ
          else
            if x0 = 15 then
              g_Mo_isConstant_47 σ
            else
              if x0 = 33 then
                g_Mo_isConstant_47 σ
              else
                if x0 = 25 then
                  g_Mo_isConstant_47 σ
                else
                  g_Mo_isConstant_52 (0) σ
set_option maxHeartbeats 4000000 in
theorem t_Mo_isConstant_0 {x0 : Int32} {σ σ' : am_S} {r : Int32} (h : g_Mo_isConstant x0 σ = some (r, σ')) : am_A S_m M_Mo_isConstant (0, [some (.int x0)], [], σ) (am_r S_m (fun q τ => q = some (.int r) ∧ τ = σ')) := by
  unfold g_Mo_isConstant at h
  refine a_iload_n i_Mo_isConstant_0 rfl ?_
  refine a_bipush i_Mo_isConstant_1 ?_
  by_cases c3 : x0 = 11
  · rw [if_pos c3] at h
    refine a_ict i_Mo_isConstant_3 c3 ?_
    exact am_wk (t_Mo_isConstant_47 h) ⟨Or.inl rfl, trivial⟩
  · rw [if_neg c3] at h
    refine a_icf i_Mo_isConstant_3 c3 ?_
    refine a_iload_n i_Mo_isConstant_6 rfl ?_
    refine a_iconst i_Mo_isConstant_7 ?_
    by_cases c6 : x0 = 5
    · rw [if_pos c6] at h
      refine a_ict i_Mo_isConstant_8 c6 ?_
      exact am_wk (t_Mo_isConstant_47 h) ⟨Or.inl rfl, trivial⟩
    · rw [if_neg c6] at h
      refine a_icf i_Mo_isConstant_8 c6 ?_
      refine a_iload_n i_Mo_isConstant_11 rfl ?_
      refine a_bipush i_Mo_isConstant_12 ?_
      by_cases c9 : x0 = 6
      · rw [if_pos c9] at h
        refine a_ict i_Mo_isConstant_14 c9 ?_
        exact am_wk (t_Mo_isConstant_47 h) ⟨Or.inl rfl, trivial⟩
      · rw [if_neg c9] at h
        refine a_icf i_Mo_isConstant_14 c9 ?_
        refine a_iload_n i_Mo_isConstant_17 rfl ?_
        refine a_bipush i_Mo_isConstant_18 ?_
        by_cases c12 : x0 = 7
        · rw [if_pos c12] at h
          refine a_ict i_Mo_isConstant_20 c12 ?_
          exact am_wk (t_Mo_isConstant_47 h) ⟨Or.inl rfl, trivial⟩
        · rw [if_neg c12] at h
          refine a_icf i_Mo_isConstant_20 c12 ?_
          refine a_iload_n i_Mo_isConstant_23 rfl ?_
          refine a_bipush i_Mo_isConstant_24 ?_
          by_cases c15 : x0 = 13
          · rw [if_pos c15] at h
            refine a_ict i_Mo_isConstant_26 c15 ?_
            exact am_wk (t_Mo_isConstant_47 h) ⟨Or.inl rfl, trivial⟩
          · rw [if_neg c15] at h
            refine a_icf i_Mo_isConstant_26 c15 ?_
            refine a_iload_n i_Mo_isConstant_29 rfl ?_
            refine a_bipush i_Mo_isConstant_30 ?_
            by_cases c18 : x0 = 15
            · rw [if_pos c18] at h
              refine a_ict i_Mo_isConstant_32 c18 ?_
              exact am_wk (t_Mo_isConstant_47 h) ⟨Or.inl rfl, trivial⟩
            · rw [if_neg c18] at h
              refine a_icf i_Mo_isConstant_32 c18 ?_
              refine a_iload_n i_Mo_isConstant_35 rfl ?_
              refine a_bipush i_Mo_isConstant_36 ?_
              by_cases c21 : x0 = 33
              · rw [if_pos c21] at h
                refine a_ict i_Mo_isConstant_38 c21 ?_
                exact am_wk (t_Mo_isConstant_47 h) ⟨Or.inl rfl, trivial⟩
              · rw [if_neg c21] at h
                refine a_icf i_Mo_isConstant_38 c21 ?_
                refine a_iload_n i_Mo_isConstant_41 rfl ?_
                refine a_bipush i_Mo_isConstant_42 ?_
                by_cases c24 : x0 = 25
                · rw [if_pos c24] at h
                  refine a_icf i_Mo_isConstant_44 c24 ?_
                  exact am_wk (t_Mo_isConstant_47 h) ⟨Or.inl rfl, trivial⟩
                · rw [if_neg c24] at h
                  refine a_ict i_Mo_isConstant_44 c24 ?_
                  refine a_iconst i_Mo_isConstant_51 ?_
                  exact am_wk (t_Mo_isConstant_52 h) ⟨Or.inl rfl, trivial⟩
theorem t_Mo_isConstant {x0 : Int32} {σ σ' : am_S} {r : Int32} (h : g_Mo_isConstant x0 σ = some (r, σ')) : am_Mt S_m M_Mo_isConstant [.int x0] σ (fun q τ => q = some (.int r) ∧ τ = σ') :=
  am_M_of ok_Mo_isConstant (Nat.le_of_ble_eq_true rfl) (t_Mo_isConstant_0 h)
def g_Mo_isAddress_16 (y0 : Int32) (σ : am_S) : Option (Int32 × am_S) :=
  am_gd (z01 y0) <|
  some (y0, σ)
set_option maxHeartbeats 4000000 in
theorem t_Mo_isAddress_16 {y0 : Int32} {σ σ' : am_S} {r : Int32} (h : g_Mo_isAddress_16 y0 σ = some (r, σ')) : am_A S_m M_Mo_isAddress (16, [none], [.int y0], σ) (am_r S_m (fun q τ => q = some (.int r) ∧ τ = σ')) := by
  unfold g_Mo_isAddress_16 at h
  obtain ⟨c1, h⟩ := gd_some h
  exact am_ret_z ok_Mo_isAddress rfl rfl (z01_or c1) (am_lf_i h)
def g_Mo_isAddress_11 (σ : am_S) : Option (Int32 × am_S) :=
  g_Mo_isAddress_16 (1) σ
set_option maxHeartbeats 4000000 in
theorem t_Mo_isAddress_11 {σ σ' : am_S} {r : Int32} (h : g_Mo_isAddress_11 σ = some (r, σ')) : am_A S_m M_Mo_isAddress (11, [none], [], σ) (am_r S_m (fun q τ => q = some (.int r) ∧ τ = σ')) := by
  unfold g_Mo_isAddress_11 at h
  refine a_iconst i_Mo_isAddress_11 ?_
  refine a_goto i_Mo_isAddress_12 ?_
  exact t_Mo_isAddress_16 h
def g_Mo_isAddress (x0 : Int32) (σ : am_S) : Option (Int32 × am_S) :=
  if x0 = 1 then
    g_Mo_isAddress_11 σ
  else
    if x0 = 27 then
      g_Mo_isAddress_11 σ
    else
      g_Mo_isAddress_16 (0) σ
set_option maxHeartbeats 4000000 in
theorem t_Mo_isAddress_0 {x0 : Int32} {σ σ' : am_S} {r : Int32} (h : g_Mo_isAddress x0 σ = some (r, σ')) : am_A S_m M_Mo_isAddress (0, [some (.int x0)], [], σ) (am_r S_m (fun q τ => q = some (.int r) ∧ τ = σ')) := by
  unfold g_Mo_isAddress at h
  refine a_iload_n i_Mo_isAddress_0 rfl ?_
  refine a_iconst i_Mo_isAddress_1 ?_
  by_cases c3 : x0 = 1
  · rw [if_pos c3] at h
    refine a_ict i_Mo_isAddress_2 c3 ?_
    exact am_wk (t_Mo_isAddress_11 h) ⟨Or.inl rfl, trivial⟩
  · rw [if_neg c3] at h
    refine a_icf i_Mo_isAddress_2 c3 ?_
    refine a_iload_n i_Mo_isAddress_5 rfl ?_
    refine a_bipush i_Mo_isAddress_6 ?_
    by_cases c6 : x0 = 27
    · rw [if_pos c6] at h
      refine a_icf i_Mo_isAddress_8 c6 ?_
      exact am_wk (t_Mo_isAddress_11 h) ⟨Or.inl rfl, trivial⟩
    · rw [if_neg c6] at h
      refine a_ict i_Mo_isAddress_8 c6 ?_
      refine a_iconst i_Mo_isAddress_15 ?_
      exact am_wk (t_Mo_isAddress_16 h) ⟨Or.inl rfl, trivial⟩
theorem t_Mo_isAddress {x0 : Int32} {σ σ' : am_S} {r : Int32} (h : g_Mo_isAddress x0 σ = some (r, σ')) : am_Mt S_m M_Mo_isAddress [.int x0] σ (fun q τ => q = some (.int r) ∧ τ = σ') :=
  am_M_of ok_Mo_isAddress (Nat.le_of_ble_eq_true rfl) (t_Mo_isAddress_0 h)
def g_Mo_baseOf_31 (y0 : Int64) (σ : am_S) : Option (Int64 × am_S) :=
  some (y0, σ)
set_option maxHeartbeats 4000000 in
theorem t_Mo_baseOf_31 {y0 : Int64} {σ σ' : am_S} {r : Int64} (h : g_Mo_baseOf_31 y0 σ = some (r, σ')) : am_A S_m M_Mo_baseOf (31, [none, none, none, none], [.long y0], σ) (am_r S_m (fun q τ => q = some (.long r) ∧ τ = σ')) := by
  unfold g_Mo_baseOf_31 at h
  exact am_ret_l ok_Mo_baseOf rfl rfl (am_lf_l h)
def g_Mo_baseOf (x1 : Int32) (x2 : Int32) (σ : am_S) : Option (Int64 × am_S) :=
  am_gd (inb x1 200) <|
  am_gd (inb (σ.2.1 19 x1.toNatClampNeg) 4) <|
  am_bd (g_Mo_has (σ.2.1 14 (σ.2.1 19 x1.toNatClampNeg).toNatClampNeg) x2 σ) fun v12 σ12 =>
  if v12 = 0 then
    g_Mo_baseOf_31 (0) σ12
  else
    am_bd (g_Mo_valueAt (σ.2.1 14 (σ.2.1 19 x1.toNatClampNeg).toNatClampNeg) x2 σ12) fun v17 σ17 =>
    g_Mo_baseOf_31 v17 σ17
set_option maxHeartbeats 4000000 in
theorem t_Mo_baseOf_0 {x1 : Int32} {x2 : Int32} {σ σ' : am_S} {r : Int64} (h : g_Mo_baseOf x1 x2 σ = some (r, σ')) : am_A S_m M_Mo_baseOf (0, [some (.ref 0), some (.int x1), some (.int x2), none], [], σ) (am_r S_m (fun q τ => q = some (.long r) ∧ τ = σ')) := by
  unfold g_Mo_baseOf at h
  refine a_aload_n i_Mo_baseOf_0 rfl ?_
  refine a_get (v := .ref 14) i_Mo_baseOf_1 rfl rfl ?_
  refine a_aload_n i_Mo_baseOf_4 rfl ?_
  refine a_get (v := .ref 19) i_Mo_baseOf_5 rfl rfl ?_
  refine a_iload_n i_Mo_baseOf_8 rfl ?_
  obtain ⟨c6, h⟩ := gd_some h
  refine a_ial (n := 200) i_Mo_baseOf_9 (by decide) rfl rfl (inb_in c6) ?_
  obtain ⟨c7, h⟩ := gd_some h
  refine a_ial (n := 4) i_Mo_baseOf_10 (by decide) rfl rfl (inb_in c7) ?_
  refine a_istore_n i_Mo_baseOf_11 rfl ?_
  refine a_aload_n i_Mo_baseOf_12 rfl ?_
  refine a_iload_n i_Mo_baseOf_13 rfl ?_
  refine a_iload_n i_Mo_baseOf_14 rfl ?_
  obtain ⟨v12, σ12, e12, h⟩ := am_bd_some h
  refine am_cvd (rest := []) [.int (σ.2.1 14 (σ.2.1 19 x1.toNatClampNeg).toNatClampNeg), .int x2] c_Mo_baseOf_15 ⟨by decide, _, rfl⟩ rfl (Nat.le_of_ble_eq_true rfl) (t_Mo_has e12) ?_
  by_cases c13 : v12 = 0
  · rw [if_pos c13] at h
    refine a_ift i_Mo_baseOf_18 c13 ?_
    refine a_lconst i_Mo_baseOf_30 ?_
    exact am_wk (t_Mo_baseOf_31 h) ⟨Or.inl rfl, Or.inl rfl, Or.inl rfl, Or.inl rfl, trivial⟩
  · rw [if_neg c13] at h
    refine a_iff i_Mo_baseOf_18 c13 ?_
    refine a_aload_n i_Mo_baseOf_21 rfl ?_
    refine a_iload_n i_Mo_baseOf_22 rfl ?_
    refine a_iload_n i_Mo_baseOf_23 rfl ?_
    obtain ⟨v17, σ17, e17, h⟩ := am_bd_some h
    refine am_cvd (rest := []) [.int (σ.2.1 14 (σ.2.1 19 x1.toNatClampNeg).toNatClampNeg), .int x2] c_Mo_baseOf_24 ⟨by decide, _, rfl⟩ rfl (Nat.le_of_ble_eq_true rfl) (t_Mo_valueAt e17) ?_
    refine a_goto i_Mo_baseOf_27 ?_
    exact am_wk (t_Mo_baseOf_31 h) ⟨Or.inl rfl, Or.inl rfl, Or.inl rfl, Or.inl rfl, trivial⟩
theorem t_Mo_baseOf {x1 : Int32} {x2 : Int32} {σ σ' : am_S} {r : Int64} (h : g_Mo_baseOf x1 x2 σ = some (r, σ')) : am_Mt S_m M_Mo_baseOf [.ref 0, .int x1, .int x2] σ (fun q τ => q = some (.long r) ∧ τ = σ') :=
  am_M_of ok_Mo_baseOf (Nat.le_of_ble_eq_true rfl) (t_Mo_baseOf_0 h)
def g_Mo_indexed_31 (y0 : Int32) (σ : am_S) : Option (Int32 × am_S) :=
  some (y0, σ)
set_option maxHeartbeats 4000000 in
theorem t_Mo_indexed_31 {y0 : Int32} {σ σ' : am_S} {r : Int32} (h : g_Mo_indexed_31 y0 σ = some (r, σ')) : am_A S_m M_Mo_indexed (31, [none, none, none, none, none, none, none], [.int y0], σ) (am_r S_m (fun q τ => q = some (.int r) ∧ τ = σ')) := by
  unfold g_Mo_indexed_31 at h
  exact am_ret_i ok_Mo_indexed rfl rfl (am_lf_i h)
def g_Mo_indexed (x1 : Int32) (x2 : Int64) (x4 : Int64) (x6 : Int32) (σ : am_S) : Option (Int32 × am_S) :=
  am_bd (g_Mo_in x4 (0) (3000) σ) fun v4 σ4 =>
  if v4 = 0 then
    g_Mo_indexed_31 (-1) σ4
  else
    am_bd (g_Mo_placeIn x1 (x2 + (x6.toInt64 * x4)) x6 σ4) fun v15 σ15 =>
    g_Mo_indexed_31 v15 σ15
set_option maxHeartbeats 4000000 in
theorem t_Mo_indexed_0 {x1 : Int32} {x2 : Int64} {x4 : Int64} {x6 : Int32} {σ σ' : am_S} {r : Int32} (h : g_Mo_indexed x1 x2 x4 x6 σ = some (r, σ')) : am_A S_m M_Mo_indexed (0, [some (.ref 0), some (.int x1), some (.long x2), none, some (.long x4), none, some (.int x6)], [], σ) (am_r S_m (fun q τ => q = some (.int r) ∧ τ = σ')) := by
  unfold g_Mo_indexed at h
  refine a_lload i_Mo_indexed_0 rfl ?_
  refine a_lconst i_Mo_indexed_2 ?_
  refine a_ldc2 i_Mo_indexed_3 ?_
  obtain ⟨v4, σ4, e4, h⟩ := am_bd_some h
  refine am_csd (rest := []) [.long x4, .long 0, .long 3000] c_Mo_indexed_6 rfl (Nat.le_of_ble_eq_true rfl) (t_Mo_in e4) ?_
  by_cases c5 : v4 = 0
  · rw [if_pos c5] at h
    refine a_ift i_Mo_indexed_9 c5 ?_
    refine a_iconst i_Mo_indexed_30 ?_
    exact am_wk (t_Mo_indexed_31 h) ⟨Or.inl rfl, Or.inl rfl, Or.inl rfl, Or.inl rfl, Or.inl rfl, Or.inl rfl, Or.inl rfl, trivial⟩
  · rw [if_neg c5] at h
    refine a_iff i_Mo_indexed_9 c5 ?_
    refine a_aload_n i_Mo_indexed_12 rfl ?_
    refine a_iload_n i_Mo_indexed_13 rfl ?_
    refine a_lload_n i_Mo_indexed_14 rfl ?_
    refine a_iload i_Mo_indexed_15 rfl ?_
    refine a_i2l i_Mo_indexed_17 ?_
    refine a_lload i_Mo_indexed_18 rfl ?_
    refine a_lmul i_Mo_indexed_20 ?_
    refine a_ladd i_Mo_indexed_21 ?_
    refine a_iload i_Mo_indexed_22 rfl ?_
    obtain ⟨v15, σ15, e15, h⟩ := am_bd_some h
    refine am_cvd (rest := []) [.int x1, .long (x2 + (x6.toInt64 * x4)), .int x6] c_Mo_indexed_24 ⟨by decide, _, rfl⟩ rfl (Nat.le_of_ble_eq_true rfl) (t_Mo_placeIn e15) ?_
    refine a_goto i_Mo_indexed_27 ?_
    exact am_wk (t_Mo_indexed_31 h) ⟨Or.inl rfl, Or.inl rfl, Or.inl rfl, Or.inl rfl, Or.inl rfl, Or.inl rfl, Or.inl rfl, trivial⟩
theorem t_Mo_indexed {x1 : Int32} {x2 : Int64} {x4 : Int64} {x6 : Int32} {σ σ' : am_S} {r : Int32} (h : g_Mo_indexed x1 x2 x4 x6 σ = some (r, σ')) : am_Mt S_m M_Mo_indexed [.ref 0, .int x1, .long x2, .long x4, .int x6] σ (fun q τ => q = some (.int r) ∧ τ = σ') :=
  am_M_of ok_Mo_indexed (Nat.le_of_ble_eq_true rfl) (t_Mo_indexed_0 h)
def g_Mo_nameAt_111 (y0 : Int32) (σ : am_S) : Option (Int32 × am_S) :=
  some (y0, σ)
set_option maxHeartbeats 4000000 in
theorem t_Mo_nameAt_111 {y0 : Int32} {σ σ' : am_S} {r : Int32} (h : g_Mo_nameAt_111 y0 σ = some (r, σ')) : am_A S_m M_Mo_nameAt (111, [none, none, none, none, none], [.int y0], σ) (am_r S_m (fun q τ => q = some (.int r) ∧ τ = σ')) := by
  unfold g_Mo_nameAt_111 at h
  exact am_ret_i ok_Mo_nameAt rfl rfl (am_lf_i h)
def g_Mo_nameAt (x1 : Int32) (σ : am_S) : Option (Int32 × am_S) :=
  am_bd (g_Mo_valueAt x1 (0) σ) fun v4 σ4 =>
  am_bd (g_Mo_formAt x1 (0) σ4) fun v9 σ9 =>
  if v9 = 8 then
    some (v4.toInt32, σ9)
  else
  if v9 = 14 then
    am_bd (g_Mo_textIn (2) v4 σ9) fun v14 σ14 =>
    some (v14, σ14)
  else
  if v9 = 31 then
    am_bd (g_Mo_textIn (3) v4 σ9) fun v14 σ14 =>
    some (v14, σ14)
  else
  if v9 = 37 then
    am_bd (g_Mo_baseOf x1 (8) σ9) fun v16 σ16 =>
    am_bd (g_Mo_indexed (4) v16 v4 (4) σ16) fun v19 σ19 =>
    if v19 = (-1) then
      g_Mo_nameAt_111 (-1) σ19
    else
      am_bd (g_Mo_peek v19 (4) σ19) fun v29 σ29 =>
      am_bd (g_Mo_textIn (2) v29 σ29) fun v30 σ30 =>
      g_Mo_nameAt_111 v30 σ30
  else
  some ((-1), σ9)
set_option maxHeartbeats 4000000 in
theorem t_Mo_nameAt_0 {x1 : Int32} {σ σ' : am_S} {r : Int32} (h : g_Mo_nameAt x1 σ = some (r, σ')) : am_A S_m M_Mo_nameAt (0, [some (.ref 0), some (.int x1), none, none, none], [], σ) (am_r S_m (fun q τ => q = some (.int r) ∧ τ = σ')) := by
  unfold g_Mo_nameAt at h
  refine a_aload_n i_Mo_nameAt_0 rfl ?_
  refine a_iload_n i_Mo_nameAt_1 rfl ?_
  refine a_iconst i_Mo_nameAt_2 ?_
  obtain ⟨v4, σ4, e4, h⟩ := am_bd_some h
  refine am_cvd (rest := []) [.int x1, .int 0] c_Mo_nameAt_3 ⟨by decide, _, rfl⟩ rfl (Nat.le_of_ble_eq_true rfl) (t_Mo_valueAt e4) ?_
  refine a_lstore_n i_Mo_nameAt_6 rfl ?_
  refine a_aload_n i_Mo_nameAt_7 rfl ?_
  refine a_iload_n i_Mo_nameAt_8 rfl ?_
  refine a_iconst i_Mo_nameAt_9 ?_
  obtain ⟨v9, σ9, e9, h⟩ := am_bd_some h
  refine am_cvd (rest := []) [.int x1, .int 0] c_Mo_nameAt_10 ⟨by decide, _, rfl⟩ rfl (Nat.le_of_ble_eq_true rfl) (t_Mo_formAt e9) ?_
  by_cases d10_0 : v9 = 8
  · rw [if_pos d10_0] at h
    refine a_lks 0 i_Mo_nameAt_13 rfl (by rw [d10_0]; decide) rfl ?_
    refine a_lload_n i_Mo_nameAt_56 rfl ?_
    refine a_l2i i_Mo_nameAt_57 ?_
    exact am_ret_i ok_Mo_nameAt rfl rfl (am_lf_i h)
  rw [if_neg d10_0] at h
  by_cases d10_1 : v9 = 14
  · rw [if_pos d10_1] at h
    refine a_lks 1 i_Mo_nameAt_13 rfl (by rw [d10_1]; decide) rfl ?_
    refine a_aload_n i_Mo_nameAt_59 rfl ?_
    refine a_iconst i_Mo_nameAt_60 ?_
    refine a_lload_n i_Mo_nameAt_61 rfl ?_
    obtain ⟨v14, σ14, e14, h⟩ := am_bd_some h
    refine am_cvd (rest := []) [.int 2, .long v4] c_Mo_nameAt_62 ⟨by decide, _, rfl⟩ rfl (Nat.le_of_ble_eq_true rfl) (t_Mo_textIn e14) ?_
    exact am_ret_i ok_Mo_nameAt rfl rfl (am_lf_i h)
  rw [if_neg d10_1] at h
  by_cases d10_2 : v9 = 31
  · rw [if_pos d10_2] at h
    refine a_lks 2 i_Mo_nameAt_13 rfl (by rw [d10_2]; decide) rfl ?_
    refine a_aload_n i_Mo_nameAt_66 rfl ?_
    refine a_iconst i_Mo_nameAt_67 ?_
    refine a_lload_n i_Mo_nameAt_68 rfl ?_
    obtain ⟨v14, σ14, e14, h⟩ := am_bd_some h
    refine am_cvd (rest := []) [.int 3, .long v4] c_Mo_nameAt_69 ⟨by decide, _, rfl⟩ rfl (Nat.le_of_ble_eq_true rfl) (t_Mo_textIn e14) ?_
    exact am_ret_i ok_Mo_nameAt rfl rfl (am_lf_i h)
  rw [if_neg d10_2] at h
  by_cases d10_3 : v9 = 37
  · rw [if_pos d10_3] at h
    refine a_lks 3 i_Mo_nameAt_13 rfl (by rw [d10_3]; decide) rfl ?_
    refine a_aload_n i_Mo_nameAt_73 rfl ?_
    refine a_iconst i_Mo_nameAt_74 ?_
    refine a_aload_n i_Mo_nameAt_75 rfl ?_
    refine a_iload_n i_Mo_nameAt_76 rfl ?_
    refine a_bipush i_Mo_nameAt_77 ?_
    obtain ⟨v16, σ16, e16, h⟩ := am_bd_some h
    refine am_cvd (rest := [.int 4, .ref 0]) [.int x1, .int 8] c_Mo_nameAt_79 ⟨by decide, _, rfl⟩ rfl (Nat.le_of_ble_eq_true rfl) (t_Mo_baseOf e16) ?_
    refine a_lload_n i_Mo_nameAt_82 rfl ?_
    refine a_iconst i_Mo_nameAt_83 ?_
    obtain ⟨v19, σ19, e19, h⟩ := am_bd_some h
    refine am_cvd (rest := []) [.int 4, .long v16, .long v4, .int 4] c_Mo_nameAt_84 ⟨by decide, _, rfl⟩ rfl (Nat.le_of_ble_eq_true rfl) (t_Mo_indexed e19) ?_
    refine a_istore i_Mo_nameAt_87 rfl ?_
    refine a_iload i_Mo_nameAt_89 rfl ?_
    refine a_iconst i_Mo_nameAt_91 ?_
    by_cases c23 : v19 = (-1)
    · rw [if_pos c23] at h
      refine a_icf i_Mo_nameAt_92 c23 ?_
      refine a_iconst i_Mo_nameAt_95 ?_
      refine a_goto i_Mo_nameAt_96 ?_
      exact am_wk (t_Mo_nameAt_111 h) ⟨Or.inl rfl, Or.inl rfl, Or.inl rfl, Or.inl rfl, Or.inl rfl, trivial⟩
    · rw [if_neg c23] at h
      refine a_ict i_Mo_nameAt_92 c23 ?_
      refine a_aload_n i_Mo_nameAt_99 rfl ?_
      refine a_iconst i_Mo_nameAt_100 ?_
      refine a_aload_n i_Mo_nameAt_101 rfl ?_
      refine a_iload i_Mo_nameAt_102 rfl ?_
      refine a_iconst i_Mo_nameAt_104 ?_
      obtain ⟨v29, σ29, e29, h⟩ := am_bd_some h
      refine am_cvd (rest := [.int 2, .ref 0]) [.int v19, .int 4] c_Mo_nameAt_105 ⟨by decide, _, rfl⟩ rfl (Nat.le_of_ble_eq_true rfl) (t_Mo_peek e29) ?_
      obtain ⟨v30, σ30, e30, h⟩ := am_bd_some h
      refine am_cvd (rest := []) [.int 2, .long v29] c_Mo_nameAt_108 ⟨by decide, _, rfl⟩ rfl (Nat.le_of_ble_eq_true rfl) (t_Mo_textIn e30) ?_
      exact am_wk (t_Mo_nameAt_111 h) ⟨Or.inl rfl, Or.inl rfl, Or.inl rfl, Or.inl rfl, Or.inl rfl, trivial⟩
  rw [if_neg d10_3] at h
  refine a_lksd i_Mo_nameAt_13 (lks_n _ _ _ (List.forall_mem_cons.mpr ⟨lv_neT d10_0 (a := 8) (by decide), List.forall_mem_cons.mpr ⟨lv_neT d10_1 (a := 14) (by decide), List.forall_mem_cons.mpr ⟨lv_neT d10_2 (a := 31) (by decide), List.forall_mem_cons.mpr ⟨lv_neT d10_3 (a := 37) (by decide), fun _ h9 => absurd h9 List.not_mem_nil⟩⟩⟩⟩)) rfl ?_
  refine a_iconst i_Mo_nameAt_112 ?_
  exact am_ret_i ok_Mo_nameAt rfl rfl (am_lf_i h)
theorem t_Mo_nameAt {x1 : Int32} {σ σ' : am_S} {r : Int32} (h : g_Mo_nameAt x1 σ = some (r, σ')) : am_Mt S_m M_Mo_nameAt [.ref 0, .int x1] σ (fun q τ => q = some (.int r) ∧ τ = σ') :=
  am_M_of ok_Mo_nameAt (Nat.le_of_ble_eq_true rfl) (t_Mo_nameAt_0 h)
def g_Mo_addressAt_50 (y0 : Int32) (σ : am_S) : Option (Int32 × am_S) :=
  am_gd (z01 y0) <|
  some (y0, σ)
set_option maxHeartbeats 4000000 in
theorem t_Mo_addressAt_50 {y0 : Int32} {σ σ' : am_S} {r : Int32} (h : g_Mo_addressAt_50 y0 σ = some (r, σ')) : am_A S_m M_Mo_addressAt (50, [none, none, none, none, none], [.int y0], σ) (am_r S_m (fun q τ => q = some (.int r) ∧ τ = σ')) := by
  unfold g_Mo_addressAt_50 at h
  obtain ⟨c1, h⟩ := gd_some h
  exact am_ret_z ok_Mo_addressAt rfl rfl (z01_or c1) (am_lf_i h)
def g_Mo_addressAt_36 (x4 : Int32) (y0 : Int64) (σ : am_S) : Option (Int32 × am_S) :=
  if x4 = (-1) then
    g_Mo_addressAt_50 (0) (am_fl σ 0 37 y0)
  else
    g_Mo_addressAt_50 (1) (am_fl σ 0 37 y0)
set_option maxHeartbeats 4000000 in
theorem t_Mo_addressAt_36 {x4 : Int32} {y0 : Int64} {σ σ' : am_S} {r : Int32} (h : g_Mo_addressAt_36 x4 y0 σ = some (r, σ')) : am_A S_m M_Mo_addressAt (36, [none, none, none, none, some (.int x4)], [.long y0, .ref 0], σ) (am_r S_m (fun q τ => q = some (.int r) ∧ τ = σ')) := by
  unfold g_Mo_addressAt_36 at h
  refine a_putl i_Mo_addressAt_36 rfl ?_
  refine a_iload i_Mo_addressAt_39 rfl ?_
  refine a_iconst i_Mo_addressAt_41 ?_
  by_cases c4 : x4 = (-1)
  · rw [if_pos c4] at h
    refine a_ict i_Mo_addressAt_42 c4 ?_
    refine a_iconst i_Mo_addressAt_49 ?_
    exact am_wk (t_Mo_addressAt_50 h) ⟨Or.inl rfl, Or.inl rfl, Or.inl rfl, Or.inl rfl, Or.inl rfl, trivial⟩
  · rw [if_neg c4] at h
    refine a_icf i_Mo_addressAt_42 c4 ?_
    refine a_iconst i_Mo_addressAt_45 ?_
    refine a_goto i_Mo_addressAt_46 ?_
    exact am_wk (t_Mo_addressAt_50 h) ⟨Or.inl rfl, Or.inl rfl, Or.inl rfl, Or.inl rfl, Or.inl rfl, trivial⟩
def g_Mo_addressAt (x1 : Int32) (x2 : Int64) (σ : am_S) : Option (Int32 × am_S) :=
  am_bd (g_Mo_baseOf x1 (9) σ) fun v6 σ6 =>
  am_bd (g_Mo_indexed (5) v6 x2 (8) σ6) fun v9 σ9 =>
  if v9 = (-1) then
    g_Mo_addressAt_36 v9 (0) σ9
  else
    am_bd (g_Mo_peek v9 (8) σ9) fun v18 σ18 =>
    g_Mo_addressAt_36 v9 v18 σ18
set_option maxHeartbeats 4000000 in
theorem t_Mo_addressAt_0 {x1 : Int32} {x2 : Int64} {σ σ' : am_S} {r : Int32} (h : g_Mo_addressAt x1 x2 σ = some (r, σ')) : am_A S_m M_Mo_addressAt (0, [some (.ref 0), some (.int x1), some (.long x2), none, none], [], σ) (am_r S_m (fun q τ => q = some (.int r) ∧ τ = σ')) := by
  unfold g_Mo_addressAt at h
  refine a_aload_n i_Mo_addressAt_0 rfl ?_
  refine a_iconst i_Mo_addressAt_1 ?_
  refine a_aload_n i_Mo_addressAt_2 rfl ?_
  refine a_iload_n i_Mo_addressAt_3 rfl ?_
  refine a_bipush i_Mo_addressAt_4 ?_
  obtain ⟨v6, σ6, e6, h⟩ := am_bd_some h
  refine am_cvd (rest := [.int 5, .ref 0]) [.int x1, .int 9] c_Mo_addressAt_6 ⟨by decide, _, rfl⟩ rfl (Nat.le_of_ble_eq_true rfl) (t_Mo_baseOf e6) ?_
  refine a_lload_n i_Mo_addressAt_9 rfl ?_
  refine a_bipush i_Mo_addressAt_10 ?_
  obtain ⟨v9, σ9, e9, h⟩ := am_bd_some h
  refine am_cvd (rest := []) [.int 5, .long v6, .long x2, .int 8] c_Mo_addressAt_12 ⟨by decide, _, rfl⟩ rfl (Nat.le_of_ble_eq_true rfl) (t_Mo_indexed e9) ?_
  refine a_istore i_Mo_addressAt_15 rfl ?_
  refine a_aload_n i_Mo_addressAt_17 rfl ?_
  refine a_iload i_Mo_addressAt_18 rfl ?_
  refine a_iconst i_Mo_addressAt_20 ?_
  by_cases c14 : v9 = (-1)
  · rw [if_pos c14] at h
    refine a_icf i_Mo_addressAt_21 c14 ?_
    refine a_lconst i_Mo_addressAt_24 ?_
    refine a_goto i_Mo_addressAt_25 ?_
    exact am_wk (t_Mo_addressAt_36 h) ⟨Or.inl rfl, Or.inl rfl, Or.inl rfl, Or.inl rfl, Or.inr rfl, trivial⟩
  · rw [if_neg c14] at h
    refine a_ict i_Mo_addressAt_21 c14 ?_
    refine a_aload_n i_Mo_addressAt_28 rfl ?_
    refine a_iload i_Mo_addressAt_29 rfl ?_
    refine a_bipush i_Mo_addressAt_31 ?_
    obtain ⟨v18, σ18, e18, h⟩ := am_bd_some h
    refine am_cvd (rest := [.ref 0]) [.int v9, .int 8] c_Mo_addressAt_33 ⟨by decide, _, rfl⟩ rfl (Nat.le_of_ble_eq_true rfl) (t_Mo_peek e18) ?_
    exact am_wk (t_Mo_addressAt_36 h) ⟨Or.inl rfl, Or.inl rfl, Or.inl rfl, Or.inl rfl, Or.inr rfl, trivial⟩
theorem t_Mo_addressAt {x1 : Int32} {x2 : Int64} {σ σ' : am_S} {r : Int32} (h : g_Mo_addressAt x1 x2 σ = some (r, σ')) : am_Mt S_m M_Mo_addressAt [.ref 0, .int x1, .long x2] σ (fun q τ => q = some (.int r) ∧ τ = σ') :=
  am_M_of ok_Mo_addressAt (Nat.le_of_ble_eq_true rfl) (t_Mo_addressAt_0 h)
def g_Mo_address_38 (y0 : Int32) (σ : am_S) : Option (Int32 × am_S) :=
  am_gd (z01 y0) <|
  some (y0, σ)
set_option maxHeartbeats 4000000 in
theorem t_Mo_address_38 {y0 : Int32} {σ σ' : am_S} {r : Int32} (h : g_Mo_address_38 y0 σ = some (r, σ')) : am_A S_m M_Mo_address (38, [none, none, none], [.int y0], σ) (am_r S_m (fun q τ => q = some (.int r) ∧ τ = σ')) := by
  unfold g_Mo_address_38 at h
  obtain ⟨c1, h⟩ := gd_some h
  exact am_ret_z ok_Mo_address rfl rfl (z01_or c1) (am_lf_i h)
def g_Mo_address_33 (σ : am_S) : Option (Int32 × am_S) :=
  g_Mo_address_38 (1) σ
set_option maxHeartbeats 4000000 in
theorem t_Mo_address_33 {σ σ' : am_S} {r : Int32} (h : g_Mo_address_33 σ = some (r, σ')) : am_A S_m M_Mo_address (33, [none, none, none], [], σ) (am_r S_m (fun q τ => q = some (.int r) ∧ τ = σ')) := by
  unfold g_Mo_address_33 at h
  refine a_iconst i_Mo_address_33 ?_
  refine a_goto i_Mo_address_34 ?_
  exact t_Mo_address_38 h
def g_Mo_address (x1 : Int32) (x2 : Int32) (σ : am_S) : Option (Int32 × am_S) :=
  am_bd (g_Mo_valueAt x1 x2 σ) fun v5 σ5 =>
  am_bd (g_Mo_formAt x1 x2 (am_fl σ5 0 37 v5)) fun v10 σ10 =>
  if v10 = 27 then
    am_bd (g_Mo_addressAt x1 (σ10.1.2 0 37) σ10) fun v17 σ17 =>
    if v17 = 0 then
      g_Mo_address_38 (0) σ17
    else
      g_Mo_address_33 σ17
  else
    g_Mo_address_33 σ10
set_option maxHeartbeats 4000000 in
theorem t_Mo_address_0 {x1 : Int32} {x2 : Int32} {σ σ' : am_S} {r : Int32} (h : g_Mo_address x1 x2 σ = some (r, σ')) : am_A S_m M_Mo_address (0, [some (.ref 0), some (.int x1), some (.int x2)], [], σ) (am_r S_m (fun q τ => q = some (.int r) ∧ τ = σ')) := by
  unfold g_Mo_address at h
  refine a_aload_n i_Mo_address_0 rfl ?_
  refine a_aload_n i_Mo_address_1 rfl ?_
  refine a_iload_n i_Mo_address_2 rfl ?_
  refine a_iload_n i_Mo_address_3 rfl ?_
  obtain ⟨v5, σ5, e5, h⟩ := am_bd_some h
  refine am_cvd (rest := [.ref 0]) [.int x1, .int x2] c_Mo_address_4 ⟨by decide, _, rfl⟩ rfl (Nat.le_of_ble_eq_true rfl) (t_Mo_valueAt e5) ?_
  refine a_putl i_Mo_address_7 rfl ?_
  refine a_aload_n i_Mo_address_10 rfl ?_
  refine a_iload_n i_Mo_address_11 rfl ?_
  refine a_iload_n i_Mo_address_12 rfl ?_
  obtain ⟨v10, σ10, e10, h⟩ := am_bd_some h
  refine am_cvd (rest := []) [.int x1, .int x2] c_Mo_address_13 ⟨by decide, _, rfl⟩ rfl (Nat.le_of_ble_eq_true rfl) (t_Mo_formAt e10) ?_
  refine a_bipush i_Mo_address_16 ?_
  by_cases c12 : v10 = 27
  · rw [if_pos c12] at h
    refine a_icf i_Mo_address_18 c12 ?_
    refine a_aload_n i_Mo_address_21 rfl ?_
    refine a_iload_n i_Mo_address_22 rfl ?_
    refine a_aload_n i_Mo_address_23 rfl ?_
    refine a_get (v := .long (σ10.1.2 0 37)) i_Mo_address_24 rfl rfl ?_
    obtain ⟨v17, σ17, e17, h⟩ := am_bd_some h
    refine am_cvd (rest := []) [.int x1, .long (σ10.1.2 0 37)] c_Mo_address_27 ⟨by decide, _, rfl⟩ rfl (Nat.le_of_ble_eq_true rfl) (t_Mo_addressAt e17) ?_
    by_cases c18 : v17 = 0
    · rw [if_pos c18] at h
      refine a_ift i_Mo_address_30 c18 ?_
      refine a_iconst i_Mo_address_37 ?_
      exact am_wk (t_Mo_address_38 h) ⟨Or.inl rfl, Or.inl rfl, Or.inl rfl, trivial⟩
    · rw [if_neg c18] at h
      refine a_iff i_Mo_address_30 c18 ?_
      exact am_wk (t_Mo_address_33 h) ⟨Or.inl rfl, Or.inl rfl, Or.inl rfl, trivial⟩
  · rw [if_neg c12] at h
    refine a_ict i_Mo_address_18 c12 ?_
    exact am_wk (t_Mo_address_33 h) ⟨Or.inl rfl, Or.inl rfl, Or.inl rfl, trivial⟩
theorem t_Mo_address {x1 : Int32} {x2 : Int32} {σ σ' : am_S} {r : Int32} (h : g_Mo_address x1 x2 σ = some (r, σ')) : am_Mt S_m M_Mo_address [.ref 0, .int x1, .int x2] σ (fun q τ => q = some (.int r) ∧ τ = σ') :=
  am_M_of ok_Mo_address (Nat.le_of_ble_eq_true rfl) (t_Mo_address_0 h)
def g_Mo_origin_98 (x4 : Int32) (σ : am_S) : Option (Int32 × am_S) :=
  some (x4, σ)
set_option maxHeartbeats 4000000 in
theorem t_Mo_origin_98 {x4 : Int32} {σ σ' : am_S} {r : Int32} (h : g_Mo_origin_98 x4 σ = some (r, σ')) : am_A S_m M_Mo_origin (98, [none, none, none, none, some (.int x4)], [], σ) (am_r S_m (fun q τ => q = some (.int r) ∧ τ = σ')) := by
  unfold g_Mo_origin_98 at h
  refine a_iload i_Mo_origin_98 rfl ?_
  exact am_ret_i ok_Mo_origin rfl rfl (am_lf_i h)
def g_Mo_origin_101 (go : Int32 → Int64 → Int32 → am_S → Option (Int32 × am_S)) (x1 : Int32) (x2 : Int64) (x4 : Int32) (σ : am_S) : Option (Int32 × am_S) :=
  go x1 x2 (x4 + 1) σ
set_option maxHeartbeats 4000000 in
theorem t_Mo_origin_101 {x1 : Int32} {x2 : Int64} {x4 : Int32} {σ σ' : am_S} {r : Int32} {go : Int32 → Int64 → Int32 → am_S → Option (Int32 × am_S)} (hgo : ∀ {x1 : Int32} {x2 : Int64} {x4 : Int32} {σ σ' : am_S} {r : Int32}, go x1 x2 x4 σ = some (r, σ') → am_A S_m M_Mo_origin (36, [some (.ref 0), some (.int x1), some (.long x2), none, some (.int x4)], [], σ) (am_r S_m (fun q τ => q = some (.int r) ∧ τ = σ'))) (h : g_Mo_origin_101 go x1 x2 x4 σ = some (r, σ')) : am_A S_m M_Mo_origin (101, [some (.ref 0), some (.int x1), some (.long x2), none, some (.int x4)], [], σ) (am_r S_m (fun q τ => q = some (.int r) ∧ τ = σ')) := by
  unfold g_Mo_origin_101 at h
  refine a_iinc i_Mo_origin_101 rfl rfl ?_
  refine a_goto i_Mo_origin_104 ?_
  exact hgo h
def g_Mo_origin_36 : Nat → Int32 → Int64 → Int32 → am_S → Option (Int32 × am_S)
  | 0, _, _, _, _ => none
  | n + 1, x1, x2, x4, σ =>
  if x4 < (σ.1.1 0 22) then
    am_gd (inb x4 200) <|
    am_gd (inb x1 200) <|
    if (σ.2.1 19 x4.toNatClampNeg) = (σ.2.1 19 x1.toNatClampNeg) then
      am_gd (inb x4 200) <|
      if (lg_cmp ((σ.2.1 16 x4.toNatClampNeg).toInt64) x2) = 0 then
        am_gd (inb x4 200) <|
        if (σ.2.1 17 x4.toNatClampNeg) = 46 then
          g_Mo_origin_98 x4 σ
        else
          am_gd (inb x4 200) <|
          if (σ.2.1 17 x4.toNatClampNeg) = 29 then
            g_Mo_origin_98 x4 σ
          else
            g_Mo_origin_101 (g_Mo_origin_36 n) x1 x2 x4 σ
      else
        g_Mo_origin_101 (g_Mo_origin_36 n) x1 x2 x4 σ
    else
      g_Mo_origin_101 (g_Mo_origin_36 n) x1 x2 x4 σ
  else
    some ((-1), σ)
set_option maxHeartbeats 4000000 in
theorem t_Mo_origin_36 : ∀ (n : Nat) {x1 : Int32} {x2 : Int64} {x4 : Int32} {σ σ' : am_S} {r : Int32} (h : g_Mo_origin_36 n x1 x2 x4 σ = some (r, σ')), am_A S_m M_Mo_origin (36, [some (.ref 0), some (.int x1), some (.long x2), none, some (.int x4)], [], σ) (am_r S_m (fun q τ => q = some (.int r) ∧ τ = σ')) := by
  intro n
  induction n with
  | zero =>
    intro x1 x2 x4 σ σ' r h
    cases h
  | succ n ih =>
  intro x1 x2 x4 σ σ' r h
  unfold g_Mo_origin_36 at h
  refine a_iload i_Mo_origin_36 rfl ?_
  refine a_aload_n i_Mo_origin_38 rfl ?_
  refine a_get (v := .int (σ.1.1 0 22)) i_Mo_origin_39 rfl rfl ?_
  by_cases c4 : x4 < (σ.1.1 0 22)
  · rw [if_pos c4] at h
    refine a_icf i_Mo_origin_42 (Int32.not_le.mpr c4) ?_
    refine a_aload_n i_Mo_origin_45 rfl ?_
    refine a_get (v := .ref 19) i_Mo_origin_46 rfl rfl ?_
    refine a_iload i_Mo_origin_49 rfl ?_
    obtain ⟨c8, h⟩ := gd_some h
    refine a_ial (n := 200) i_Mo_origin_51 (by decide) rfl rfl (inb_in c8) ?_
    refine a_aload_n i_Mo_origin_52 rfl ?_
    refine a_get (v := .ref 19) i_Mo_origin_53 rfl rfl ?_
    refine a_iload_n i_Mo_origin_56 rfl ?_
    obtain ⟨c12, h⟩ := gd_some h
    refine a_ial (n := 200) i_Mo_origin_57 (by decide) rfl rfl (inb_in c12) ?_
    by_cases c13 : (σ.2.1 19 x4.toNatClampNeg) = (σ.2.1 19 x1.toNatClampNeg)
    · rw [if_pos c13] at h
      refine a_icf i_Mo_origin_58 c13 ?_
      refine a_aload_n i_Mo_origin_61 rfl ?_
      refine a_get (v := .ref 16) i_Mo_origin_62 rfl rfl ?_
      refine a_iload i_Mo_origin_65 rfl ?_
      obtain ⟨c17, h⟩ := gd_some h
      refine a_ial (n := 200) i_Mo_origin_67 (by decide) rfl rfl (inb_in c17) ?_
      refine a_i2l i_Mo_origin_68 ?_
      refine a_lload_n i_Mo_origin_69 rfl ?_
      refine a_lcmp i_Mo_origin_70 ?_
      by_cases c21 : (lg_cmp ((σ.2.1 16 x4.toNatClampNeg).toInt64) x2) = 0
      · rw [if_pos c21] at h
        refine a_iff i_Mo_origin_71 c21 ?_
        refine a_aload_n i_Mo_origin_74 rfl ?_
        refine a_get (v := .ref 17) i_Mo_origin_75 rfl rfl ?_
        refine a_iload i_Mo_origin_78 rfl ?_
        obtain ⟨c25, h⟩ := gd_some h
        refine a_ial (n := 200) i_Mo_origin_80 (by decide) rfl rfl (inb_in c25) ?_
        refine a_bipush i_Mo_origin_81 ?_
        by_cases c27 : (σ.2.1 17 x4.toNatClampNeg) = 46
        · rw [if_pos c27] at h
          refine a_ict i_Mo_origin_83 c27 ?_
          exact am_wk (t_Mo_origin_98 h) ⟨Or.inl rfl, Or.inl rfl, Or.inl rfl, Or.inl rfl, Or.inr rfl, trivial⟩
        · rw [if_neg c27] at h
          refine a_icf i_Mo_origin_83 c27 ?_
          refine a_aload_n i_Mo_origin_86 rfl ?_
          refine a_get (v := .ref 17) i_Mo_origin_87 rfl rfl ?_
          refine a_iload i_Mo_origin_90 rfl ?_
          obtain ⟨c31, h⟩ := gd_some h
          refine a_ial (n := 200) i_Mo_origin_92 (by decide) rfl rfl (inb_in c31) ?_
          refine a_bipush i_Mo_origin_93 ?_
          by_cases c33 : (σ.2.1 17 x4.toNatClampNeg) = 29
          · rw [if_pos c33] at h
            refine a_icf i_Mo_origin_95 c33 ?_
            exact am_wk (t_Mo_origin_98 h) ⟨Or.inl rfl, Or.inl rfl, Or.inl rfl, Or.inl rfl, Or.inr rfl, trivial⟩
          · rw [if_neg c33] at h
            refine a_ict i_Mo_origin_95 c33 ?_
            exact t_Mo_origin_101 (fun h => ih h) h
      · rw [if_neg c21] at h
        refine a_ift i_Mo_origin_71 c21 ?_
        exact t_Mo_origin_101 (fun h => ih h) h
    · rw [if_neg c13] at h
      refine a_ict i_Mo_origin_58 c13 ?_
      exact t_Mo_origin_101 (fun h => ih h) h
  · rw [if_neg c4] at h
    refine a_ict i_Mo_origin_42 (Int32.not_lt.mp c4) ?_
    refine a_iconst i_Mo_origin_107 ?_
    exact am_ret_i ok_Mo_origin rfl rfl (am_lf_i h)
def g_Mo_origin (x1 : Int32) (σ : am_S) : Option (Int32 × am_S) :=
  am_bd (g_Mo_formAt x1 (4) σ) fun v4 σ4 =>
  if v4 = 19 then
    am_gd (inb x1 200) <|
    am_gd (inb (σ4.2.1 19 x1.toNatClampNeg) 4) <|
    am_bd (g_Mo_valueAt x1 (4) σ4) fun v18 σ18 =>
    g_Mo_origin_36 4000 x1 (((σ4.2.1 13 (σ4.2.1 19 x1.toNatClampNeg).toNatClampNeg).toInt64) + v18) (0) σ18
  else
    some ((-1), σ4)
set_option maxHeartbeats 4000000 in
theorem t_Mo_origin_0 {x1 : Int32} {σ σ' : am_S} {r : Int32} (h : g_Mo_origin x1 σ = some (r, σ')) : am_A S_m M_Mo_origin (0, [some (.ref 0), some (.int x1), none, none, none], [], σ) (am_r S_m (fun q τ => q = some (.int r) ∧ τ = σ')) := by
  unfold g_Mo_origin at h
  refine a_aload_n i_Mo_origin_0 rfl ?_
  refine a_iload_n i_Mo_origin_1 rfl ?_
  refine a_iconst i_Mo_origin_2 ?_
  obtain ⟨v4, σ4, e4, h⟩ := am_bd_some h
  refine am_cvd (rest := []) [.int x1, .int 4] c_Mo_origin_3 ⟨by decide, _, rfl⟩ rfl (Nat.le_of_ble_eq_true rfl) (t_Mo_formAt e4) ?_
  refine a_bipush i_Mo_origin_6 ?_
  by_cases c6 : v4 = 19
  · rw [if_pos c6] at h
    refine a_ict i_Mo_origin_8 c6 ?_
    refine a_aload_n i_Mo_origin_13 rfl ?_
    refine a_get (v := .ref 13) i_Mo_origin_14 rfl rfl ?_
    refine a_aload_n i_Mo_origin_17 rfl ?_
    refine a_get (v := .ref 19) i_Mo_origin_18 rfl rfl ?_
    refine a_iload_n i_Mo_origin_21 rfl ?_
    obtain ⟨c12, h⟩ := gd_some h
    refine a_ial (n := 200) i_Mo_origin_22 (by decide) rfl rfl (inb_in c12) ?_
    obtain ⟨c13, h⟩ := gd_some h
    refine a_ial (n := 4) i_Mo_origin_23 (by decide) rfl rfl (inb_in c13) ?_
    refine a_i2l i_Mo_origin_24 ?_
    refine a_aload_n i_Mo_origin_25 rfl ?_
    refine a_iload_n i_Mo_origin_26 rfl ?_
    refine a_iconst i_Mo_origin_27 ?_
    obtain ⟨v18, σ18, e18, h⟩ := am_bd_some h
    refine am_cvd (rest := [.long ((σ4.2.1 13 (σ4.2.1 19 x1.toNatClampNeg).toNatClampNeg).toInt64)]) [.int x1, .int 4] c_Mo_origin_28 ⟨by decide, _, rfl⟩ rfl (Nat.le_of_ble_eq_true rfl) (t_Mo_valueAt e18) ?_
    refine a_ladd i_Mo_origin_31 ?_
    refine a_lstore_n i_Mo_origin_32 rfl ?_
    refine a_iconst i_Mo_origin_33 ?_
    refine a_istore i_Mo_origin_34 rfl ?_
    exact t_Mo_origin_36 4000 h
  · rw [if_neg c6] at h
    refine a_icf i_Mo_origin_8 c6 ?_
    refine a_iconst i_Mo_origin_11 ?_
    exact am_ret_i ok_Mo_origin rfl rfl (am_lf_i h)
theorem t_Mo_origin {x1 : Int32} {σ σ' : am_S} {r : Int32} (h : g_Mo_origin x1 σ = some (r, σ')) : am_Mt S_m M_Mo_origin [.ref 0, .int x1] σ (fun q τ => q = some (.int r) ∧ τ = σ') :=
  am_M_of ok_Mo_origin (Nat.le_of_ble_eq_true rfl) (t_Mo_origin_0 h)
def g_Mo_isOrigin_14 (y0 : Int32) (σ : am_S) : Option (Int32 × am_S) :=
  am_gd (z01 y0) <|
  some (y0, σ)
set_option maxHeartbeats 4000000 in
theorem t_Mo_isOrigin_14 {y0 : Int32} {σ σ' : am_S} {r : Int32} (h : g_Mo_isOrigin_14 y0 σ = some (r, σ')) : am_A S_m M_Mo_isOrigin (14, [none, none], [.int y0], σ) (am_r S_m (fun q τ => q = some (.int r) ∧ τ = σ')) := by
  unfold g_Mo_isOrigin_14 at h
  obtain ⟨c1, h⟩ := gd_some h
  exact am_ret_z ok_Mo_isOrigin rfl rfl (z01_or c1) (am_lf_i h)
def g_Mo_isOrigin (x1 : Int32) (σ : am_S) : Option (Int32 × am_S) :=
  am_bd (g_Mo_origin x1 σ) fun v3 σ3 =>
  if v3 = (-1) then
    g_Mo_isOrigin_14 (0) σ3
  else
    g_Mo_isOrigin_14 (1) σ3
set_option maxHeartbeats 4000000 in
theorem t_Mo_isOrigin_0 {x1 : Int32} {σ σ' : am_S} {r : Int32} (h : g_Mo_isOrigin x1 σ = some (r, σ')) : am_A S_m M_Mo_isOrigin (0, [some (.ref 0), some (.int x1)], [], σ) (am_r S_m (fun q τ => q = some (.int r) ∧ τ = σ')) := by
  unfold g_Mo_isOrigin at h
  refine a_aload_n i_Mo_isOrigin_0 rfl ?_
  refine a_iload_n i_Mo_isOrigin_1 rfl ?_
  obtain ⟨v3, σ3, e3, h⟩ := am_bd_some h
  refine am_cvd (rest := []) [.int x1] c_Mo_isOrigin_2 ⟨by decide, _, rfl⟩ rfl (Nat.le_of_ble_eq_true rfl) (t_Mo_origin e3) ?_
  refine a_iconst i_Mo_isOrigin_5 ?_
  by_cases c5 : v3 = (-1)
  · rw [if_pos c5] at h
    refine a_ict i_Mo_isOrigin_6 c5 ?_
    refine a_iconst i_Mo_isOrigin_13 ?_
    exact am_wk (t_Mo_isOrigin_14 h) ⟨Or.inl rfl, Or.inl rfl, trivial⟩
  · rw [if_neg c5] at h
    refine a_icf i_Mo_isOrigin_6 c5 ?_
    refine a_iconst i_Mo_isOrigin_9 ?_
    refine a_goto i_Mo_isOrigin_10 ?_
    exact am_wk (t_Mo_isOrigin_14 h) ⟨Or.inl rfl, Or.inl rfl, trivial⟩
theorem t_Mo_isOrigin {x1 : Int32} {σ σ' : am_S} {r : Int32} (h : g_Mo_isOrigin x1 σ = some (r, σ')) : am_Mt S_m M_Mo_isOrigin [.ref 0, .int x1] σ (fun q τ => q = some (.int r) ∧ τ = σ') :=
  am_M_of ok_Mo_isOrigin (Nat.le_of_ble_eq_true rfl) (t_Mo_isOrigin_0 h)
