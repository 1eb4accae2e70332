/-! arrays kept below places -/
def KEL (l : List (Nat × Nat)) (σ s : am_S) : Prop := ∀ k L, (k, L) ∈ l → ∀ j, j < L → s.2.1 k j = σ.2.1 k j ∧ s.2.2 k j = σ.2.2 k j
theorem KEL_rf {l : List (Nat × Nat)} {σ : am_S} : KEL l σ σ := fun _ _ _ _ _ => ⟨rfl, rfl⟩
theorem KEL_tr {l : List (Nat × Nat)} {σ s u : am_S} (h : KEL l σ s) (h' : KEL l s u) : KEL l σ u := fun k L m j q => ⟨(h' k L m j q).1.trans (h k L m j q).1, (h' k L m j q).2.trans (h k L m j q).2⟩
theorem KEL_nr {l A : List (Nat × Nat)} {σ s : am_S} (f : NR A σ s) (h : ∀ x ∈ l, ∀ y ∈ A, x.1 = y.1 → x.2 ≤ y.2) : KEL l σ s := fun k L m j q => f k j (fun L' m' => by
  have := h _ m _ m' rfl
  simp at this
  omega)
theorem KEL_fr {l : List (Nat × Nat)} {W : List (Nat × Nat)} {A : List Nat} {σ s : am_S} (f : FR W A σ s) (h : ∀ x ∈ l, x.1 ∉ A) : KEL l σ s := fun k L m j _ => by
  have := f.2 k (h _ m)
  rw [this.1, this.2]
  exact ⟨rfl, rfl⟩
theorem KEL_i {l : List (Nat × Nat)} {σ s : am_S} (h : KEL l σ s) {k j : Nat} (L : Nat) (m : (k, L) ∈ l) (q : j < L) : s.2.1 k j = σ.2.1 k j := (h k L m j q).1
theorem KEL_l {l : List (Nat × Nat)} {σ s : am_S} (h : KEL l σ s) {k j : Nat} (L : Nat) (m : (k, L) ∈ l) (q : j < L) : s.2.2 k j = σ.2.2 k j := (h k L m j q).2
/-! the entries, both sides -/
def DP (σ : am_S) : Nat → Nat → Prop
  | 0, e => σ.2.1 12 e = -1
  | d + 1, e => ∃ a, a < e ∧ σ.2.1 12 e = nI a ∧ DP σ d a ∧ σ.2.1 13 a = σ.2.1 13 e
def EN1 (σ τ : am_S) (e u : Nat) : Prop := σ.2.1 13 e = nI u ∧ τ.2.1 19 e = nI u ∧ τ.2.1 17 e = tg (σ.2.2 11 e) ∧ σ.2.1 12 e = τ.2.1 18 e ∧ (∃ pl, pl ≤ 3000 ∧ σ.2.1 14 e = nI pl ∧ τ.2.1 16 e = nI pl) ∧ FO σ τ e u ∧ (∃ d, d ≤ 16 ∧ DP σ d e ∧ (d = 0 ↔ σ.2.2 11 e = 17)) ∧ (σ.2.2 11 e = 17 → σ.2.1 18 u = nI e)
def CL (N L V : Nat) : List (Nat × Nat) := [(11, N), (12, N), (13, N), (14, N), (15, 7 * N), (16, 7 * N), (17, V), (18, V), (19, L), (20, L)]
def ML (N V : Nat) : List (Nat × Nat) := [(13, V), (14, V), (16, N), (17, N), (18, N), (19, N), (20, 11 * N), (21, 11 * N)]
theorem DP_up {N : Nat} {σ s : am_S} (h1 : ∀ j, j < N → s.2.1 12 j = σ.2.1 12 j) (h2 : ∀ j, j < N → s.2.1 13 j = σ.2.1 13 j) : ∀ d e, e < N → DP σ d e → DP s d e := by
  intro d
  induction d with
  | zero =>
    intro e he h
    show s.2.1 12 e = -1
    rw [h1 e he]
    exact h
  | succ d ih =>
    intro e he h
    obtain ⟨a, ha, e1, e2, e3⟩ := h
    exact ⟨a, ha, by rw [h1 e he]; exact e1, ih a (by omega) e2, by rw [h2 a (by omega), h2 e he]; exact e3⟩
theorem FO_up {N L V e u : Nat} {σ τ s t : am_S} (h : FO σ τ e u) (he : e < N) (hu : 4 * u + 4 ≤ L) (f : KEL (CL N L V) σ s) (g : KEL (ML N V) τ t) (hb : s.2.1 1 = σ.2.1 1) : FO s t e u := by
  obtain ⟨h1, h2, h3⟩ := h
  have e11 : s.2.2 11 e = σ.2.2 11 e := KEL_l f N (by simp [CL]) he
  unfold FO
  rw [e11]
  refine ⟨fun hl k hk => SL_up (h1 hl k hk) (KEL_i f (7 * N) (by simp [CL]) (by omega)) (KEL_l f (7 * N) (by simp [CL]) (by omega)) (KEL_i g (11 * N) (by simp [ML]) (by omega)) (KEL_l g (11 * N) (by simp [ML]) (by omega)) hb, fun hl k hk => ?_, fun hl k hk => US_up (h3 hl k hk) (KEL_i f L (by simp [CL]) (by omega)) (KEL_l f L (by simp [CL]) (by omega)) (KEL_i g (11 * N) (by simp [ML]) (by omega)) (KEL_l g (11 * N) (by simp [ML]) (by omega))⟩
  rw [KEL_i f (7 * N) (by simp [CL]) (by omega)]
  exact h2 hl k hk
theorem EN1_up {N L V e u : Nat} {σ τ s t : am_S} (h : EN1 σ τ e u) (he : e < N) (hu : 4 * u + 4 ≤ L) (hV : u < V) (f : KEL (CL N L V) σ s) (g : KEL (ML N V) τ t) (hb : s.2.1 1 = σ.2.1 1) : EN1 s t e u := by
  obtain ⟨h1, h2, h3, h4, ⟨pl, h5, h6, h7⟩, h8, ⟨d, h9, h10, h11⟩, h12⟩ := h
  have e11 : s.2.2 11 e = σ.2.2 11 e := KEL_l f N (by simp [CL]) he
  have e12 : ∀ j, j < N → s.2.1 12 j = σ.2.1 12 j := fun j hj => KEL_i f N (by simp [CL]) hj
  have e13 : ∀ j, j < N → s.2.1 13 j = σ.2.1 13 j := fun j hj => KEL_i f N (by simp [CL]) hj
  refine ⟨(e13 e he).trans h1, (KEL_i g N (by simp [ML]) he).trans h2, ?_, ?_, ⟨pl, h5, (KEL_i f N (by simp [CL]) he).trans h6, (KEL_i g N (by simp [ML]) he).trans h7⟩, FO_up h8 he hu f g hb, ⟨d, h9, DP_up e12 e13 d e he h10, by rw [e11]; exact h11⟩, ?_⟩
  · rw [KEL_i g N (by simp [ML]) he, e11]; exact h3
  · rw [e12 e he, KEL_i g N (by simp [ML]) he]; exact h4
  · rw [e11, KEL_i f V (by simp [CL]) hV]; exact h12
/-- the units: where each begins, its first entry -/
def UN1 (σ τ : am_S) (N u f : Nat) : Prop := f ≤ N ∧ σ.2.1 18 u = nI f ∧ τ.2.1 14 u = nI f ∧ (∃ pl, pl ≤ 3000 ∧ σ.2.1 17 u = nI pl ∧ τ.2.1 13 u = nI pl) ∧ (f < N → σ.2.1 13 f = nI u ∧ σ.2.2 11 f = 17) ∧ ∀ e, e < N → ∀ v, v < 4 → σ.2.1 13 e = nI v → (f ≤ e ↔ u ≤ v)
theorem UN1_up {N L V u f' : Nat} {σ τ s t : am_S} (h : UN1 σ τ N u f') (hV : u < V) (f : KEL (CL N L V) σ s) (g : KEL (ML N V) τ t) : UN1 s t N u f' := by
  obtain ⟨h1, h2, h3, ⟨pl, h4, h5, h6⟩, h7, h8⟩ := h
  refine ⟨h1, (KEL_i f V (by simp [CL]) hV).trans h2, (KEL_i g V (by simp [ML]) hV).trans h3, ⟨pl, h4, (KEL_i f V (by simp [CL]) hV).trans h5, (KEL_i g V (by simp [ML]) hV).trans h6⟩, fun z => ?_, fun e he v hv q => ?_⟩
  · rw [KEL_i f N (by simp [CL]) z, KEL_l f N (by simp [CL]) z]; exact h7 z
  · rw [KEL_i f N (by simp [CL]) he] at q
    exact h8 e he v hv q
/-! a new entry, class -/
theorem ad_l {N : Nat} (hN : N < 200) : ∀ j k, k + j = 7 → ∀ (σ : am_S), σ.1.1 10 10 = nI N → (∀ m, m < k → σ.2.1 15 (7 * N + m) = 0) → ∀ n, j < n → R1 (g_En_add_49 n (nI k) σ) (fun _ s => s.1.1 10 10 = nI (N + 1) ∧ FR [(10, 10)] [15] σ s ∧ NR [(15, 7 * N)] σ s ∧ ∀ m, m < 7 → s.2.1 15 (7 * N + m) = 0) := by
  intro j
  induction j with
  | zero =>
    intro k hk σ h hz n hn
    obtain ⟨n, rfl⟩ : ∃ z, n = z + 1 := ⟨n - 1, by omega⟩
    rw [g_En_add_49, if_neg (show ¬ nI k < 7 from nI_nlt (b := 7) (by omega) (by omega)), h, show nI N + 1 = nI (N + 1) from nI_add N 1]
    exact R1_p ⟨fi_at, fr_fi fr_rf (by simp), NR_rf, fun m hm => hz m (by omega)⟩
  | succ j ih =>
    intro k hk σ h hz n hn
    obtain ⟨n, rfl⟩ : ∃ z, n = z + 1 := ⟨n - 1, by omega⟩
    rw [g_En_add_49, if_pos (show nI k < 7 from nI_lt (b := 7) (by omega) (by omega)), h, show nI N * 7 = nI (7 * N) from (pk_mul N 7).trans (by rw [Nat.mul_comm]), nI_add, inb_nI (by omega) (by decide), gd_t, nI_clamp (by omega), show nI k + 1 = nI (k + 1) from nI_add k 1]
    refine R1_m (ih (k + 1) (by omega) (am_ai σ 15 (7 * N + k) 0) h (fun m hm => ?_) n (by omega)) (fun _ s _ K => ⟨K.1, fr_tr (fr_ai fr_rf (by simp)) K.2.1, NR_tr (NR_ai NR_rf (L := 7 * N) (by simp) (by omega)) K.2.2.1, K.2.2.2⟩)
    by_cases c : m = k
    · rw [c, ai_at]
    · rw [ai_no (Or.inr (by omega))]
      exact hz m (by omega)
theorem ad_c {N U : Nat} {x : Int64} {l pl : Int32} {σ : am_S} (hN : N < 200) (hU : 1 ≤ U) (h10 : σ.1.1 10 10 = nI N) (h11 : σ.1.1 10 11 = nI U) : R1 (g_En_add x l pl σ) (fun _ s => s.1.1 10 10 = nI (N + 1) ∧ FR [(10, 10)] [11, 12, 13, 14, 15] σ s ∧ NR [(11, N), (12, N), (13, N), (14, N), (15, 7 * N)] σ s ∧ (∀ m, m < 7 → s.2.1 15 (7 * N + m) = 0) ∧ s.2.2 11 N = x ∧ s.2.1 12 N = l ∧ s.2.1 13 N = nI (U - 1) ∧ s.2.1 14 N = pl) := by
  unfold g_En_add
  rw [h10, h11, show nI U - 1 = nI (U - 1) from pk_sub hU, inb_nI hN (by decide), gd_t, gd_t, gd_t, gd_t, nI_clamp (by omega)]
  refine R1_m (ad_l hN 7 0 rfl _ ?_ (fun m hm => absurd hm (by omega)) 4000 (by omega)) (fun _ s _ K => ?_)
  · exact h10
  obtain ⟨K1, K2, K3, K4⟩ := K
  refine ⟨K1, fr_tr (fr_ai (fr_ai (fr_ai (fr_al fr_rf (by simp)) (by simp)) (by simp)) (by simp)) (fr_up K2 (fun _ h => h) (by simp)), NR_tr (NR_ai (NR_ai (NR_ai (NR_al NR_rf (L := N) (by simp) (Nat.le_refl _)) (L := N) (by simp) (Nat.le_refl _)) (L := N) (by simp) (Nat.le_refl _)) (L := N) (by simp) (Nat.le_refl _)) (NR_wk K3 (fun k L h => ⟨L, by simp at h; simp [h], Nat.le_refl _⟩)), K4, ?_, ?_, ?_, ?_⟩
  · rw [fr_c K2 (by decide), ai_l, ai_l, ai_l, al_at]
  · rw [fr_b K2 (by decide), ai_no (Or.inl (by decide)), ai_no (Or.inl (by decide)), ai_at]
  · rw [fr_b K2 (by decide), ai_no (Or.inl (by decide)), ai_at]
  · rw [fr_b K2 (by decide), ai_at]
/-! .. and reference -/
theorem me_l {N a : Nat} (hN : N < 200) {Q : Unit → am_S → Prop} {τ0 : am_S} (hy : ∀ t, FR [] [20] τ0 t → NR [(20, 11 * N)] τ0 t → (∀ m, m < 11 → t.2.1 20 (11 * N + m) = 0) → R1 (g_Mo_readEntry_120 4000 (nI a) (nI N) (nI (12 * a)) t) Q) : ∀ j k, k + j = 11 → ∀ (τ : am_S), FR [] [20] τ0 τ → NR [(20, 11 * N)] τ0 τ → (∀ m, m < k → τ.2.1 20 (11 * N + m) = 0) → ∀ n, j < n → R1 (g_Mo_readEntry_88 n (nI a) (nI N) (nI k) τ) Q := by
  intro j
  induction j with
  | zero =>
    intro k hk τ f g hz n hn
    obtain ⟨n, rfl⟩ : ∃ z, n = z + 1 := ⟨n - 1, by omega⟩
    rw [g_Mo_readEntry_88, if_neg (show ¬ nI k < 11 from nI_nlt (b := 11) (by omega) (by omega)), show (12 : Int32) * nI a = nI (12 * a) from pk_mul 12 a]
    exact hy τ f g (fun m hm => hz m (by omega))
  | succ j ih =>
    intro k hk τ f g hz n hn
    obtain ⟨n, rfl⟩ : ∃ z, n = z + 1 := ⟨n - 1, by omega⟩
    rw [g_Mo_readEntry_88, if_pos (show nI k < 11 from nI_lt (b := 11) (by omega) (by omega)), show (11 : Int32) * nI N = nI (11 * N) from pk_mul 11 N, nI_add, inb_nI (by omega) (by decide), gd_t, nI_clamp (by omega), show nI k + 1 = nI (k + 1) from nI_add k 1]
    refine ih (k + 1) (by omega) _ (fr_ai f (by simp)) (NR_ai g (L := 11 * N) (by simp) (by omega)) (fun m hm => ?_) n (by omega)
    by_cases c : m = k
    · rw [c, ai_at]
    · rw [ai_no (Or.inr (by omega))]
      exact hz m (by omega)
theorem me_m {N U a d : Nat} {pl : Int32} {Q : Unit → am_S → Prop} {τ : am_S} (hN : N < 200) (hU : 1 ≤ U) (ha : a < 40) (h22 : τ.1.1 0 22 = nI N) (h21 : τ.1.1 0 21 = nI U) (h23 : τ.1.1 0 23 = nI d) (hd : d ≤ 16) (hy : ∀ t, FR [] [16, 17, 18, 19, 20] τ t → NR [(16, N), (17, N), (18, N), (19, N), (20, 11 * N)] τ t → (∀ m, m < 11 → t.2.1 20 (11 * N + m) = 0) → t.2.1 16 N = pl → t.2.1 17 N = tg (τ.2.2 7 a) → t.2.1 18 N = (if d = 0 then -1 else τ.2.1 15 (d - 1)) → t.2.1 19 N = nI (U - 1) → R1 (g_Mo_readEntry_120 4000 (nI a) (nI N) (nI (12 * a)) t) Q) : R1 (g_Mo_readEntry pl (nI a) τ) Q := by
  unfold g_Mo_readEntry g_Mo_readEntry_43 g_Mo_readEntry_72
  rw [h22, inb_nI hN (by decide), gd_t, inb_nI ha (by decide), gd_t, nI_clamp (by omega), nI_clamp (by omega)]
  refine R1_b mi_1 (fun v s _ k => ?_)
  obtain ⟨rfl, k⟩ := k
  rw [show (am_ai τ 16 N pl).1.1 0 23 = nI d from h23, gd_t, gd_t]
  have fin : ∀ y : Int64, y.toInt32 = tg (τ.2.2 7 a) → R1 (if nI d = 0 then am_gd true (am_gd true (g_Mo_readEntry_88 4000 (nI a) (nI N) 0 (am_ai (am_ai (am_ai (am_ai τ 16 N pl) 17 N y.toInt32) 18 N (-1)) 19 N (((am_ai (am_ai τ 16 N pl) 17 N y.toInt32).1.1 0 21) - 1)))) else am_gd (inb (nI d - 1) 16) (am_gd true (am_gd true (g_Mo_readEntry_88 4000 (nI a) (nI N) 0 (am_ai (am_ai (am_ai (am_ai τ 16 N pl) 17 N y.toInt32) 18 N ((am_ai (am_ai τ 16 N pl) 17 N y.toInt32).2.1 15 (nI d - 1).toNatClampNeg)) 19 N (((am_ai (am_ai τ 16 N pl) 17 N y.toInt32).1.1 0 21) - 1)))))) Q := by
    intro y hyt
    have e21 : (am_ai (am_ai τ 16 N pl) 17 N y.toInt32).1.1 0 21 = nI U := h21
    rw [e21, show nI U - 1 = nI (U - 1) from pk_sub hU, hyt]
    have main : ∀ z : Int32, z = (if d = 0 then -1 else τ.2.1 15 (d - 1)) → R1 (g_Mo_readEntry_88 4000 (nI a) (nI N) 0 (am_ai (am_ai (am_ai (am_ai τ 16 N pl) 17 N (tg (τ.2.2 7 a))) 18 N z) 19 N (nI (U - 1)))) Q := by
      intro z hz
      refine me_l hN (τ0 := am_ai (am_ai (am_ai (am_ai τ 16 N pl) 17 N (tg (τ.2.2 7 a))) 18 N z) 19 N (nI (U - 1))) (fun t f g q => ?_) 11 0 rfl _ fr_rf NR_rf (fun m hm => absurd hm (by omega)) 4000 (by omega)
      refine hy t (fr_tr (fr_ai (fr_ai (fr_ai (fr_ai fr_rf (by simp)) (by simp)) (by simp)) (by simp)) (fr_up f (fun _ h => h) (by simp))) (NR_tr (NR_ai (NR_ai (NR_ai (NR_ai NR_rf (L := N) (by simp) (Nat.le_refl _)) (L := N) (by simp) (Nat.le_refl _)) (L := N) (by simp) (Nat.le_refl _)) (L := N) (by simp) (Nat.le_refl _)) (NR_wk g (fun k L h => ⟨L, by simp at h; simp [h], Nat.le_refl _⟩))) q ?_ ?_ ?_ ?_
      · rw [fr_b f (by decide), ai_no (Or.inl (by decide)), ai_no (Or.inl (by decide)), ai_no (Or.inl (by decide)), ai_at]
      · rw [fr_b f (by decide), ai_no (Or.inl (by decide)), ai_no (Or.inl (by decide)), ai_at]
      · rw [fr_b f (by decide), ai_no (Or.inl (by decide)), ai_at, hz]
      · rw [fr_b f (by decide), ai_at]
    by_cases c : d = 0
    · subst c
      rw [if_pos (show nI 0 = 0 from rfl), gd_t, gd_t]
      exact main (-1) rfl
    · rw [if_neg (nI_ne0 (by omega) (by omega)), show nI d - 1 = nI (d - 1) from pk_sub (b := 1) (by omega), inb_nI (by omega) (by decide), gd_t, gd_t, gd_t, nI_clamp (by omega)]
      refine main _ ?_
      rw [if_neg c, ai_r (by decide), ai_r (by decide)]
  have e7 : (am_ai τ 16 N pl).2.2 7 a = τ.2.2 7 a := rfl
  rw [e7] at k
  rcases k with ⟨rfl, k⟩ | ⟨rfl, k⟩
  · rw [if_neg i10, e7, gd_t, gd_t]
    refine fin (τ.2.2 7 a) ?_
    unfold tg
    rw [if_neg (fun z => z.elim k.1 k.2)]
  · rw [if_pos rfl]
    refine fin 0 ?_
    unfold tg
    rw [if_pos (show τ.2.2 7 a < 0 ∨ lN 255 < τ.2.2 7 a from k)]
    rfl
