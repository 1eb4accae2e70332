/-! the first function, both sides -/
theorem ff_l {σ τ : am_S} {N U : Nat} {fs A Z bnd wb : Nat → Nat} {x : Int64} (h : OPN σ τ N U fs A Z bnd wb) (hx : τ.1.2 0 59 = x) : ∀ j k, k + j = N → ∀ n n', j < n → j < n' → ∃ r : Option Nat, g_Fr_firstFunction_2 n x (nI k) σ = some (oN r, σ) ∧ g_Mo_first_2 n' 46 (-1) (nI k) τ = some (oN r, τ) ∧ ∀ e, r = some e → e < N ∧ σ.2.2 11 e = 46 := by
  have hl := EV_l (OPN_ev h)
  have hn1 := EV_n (OPN_ev h)
  have hm1 := EV_m (OPN_ev h)
  intro j
  induction j with
  | zero =>
    intro k hk n n' hn hn'
    obtain ⟨n, rfl⟩ : ∃ z, n = z + 1 := ⟨n - 1, by omega⟩
    obtain ⟨n', rfl⟩ : ∃ z, n' = z + 1 := ⟨n' - 1, by omega⟩
    refine ⟨none, ?_, ?_, fun e z => by cases z⟩
    · rw [g_Fr_firstFunction_2, hn1, if_neg (nI_nlt (by omega) (by omega))]; rfl
    · rw [g_Mo_first_2, hm1, if_neg (nI_nlt (by omega) (by omega))]; rfl
  | succ j ih =>
    intro k hk n n' hn hn'
    obtain ⟨n, rfl⟩ : ∃ z, n = z + 1 := ⟨n - 1, by omega⟩
    obtain ⟨n', rfl⟩ : ∃ z, n' = z + 1 := ⟨n' - 1, by omega⟩
    obtain ⟨u, hu, E⟩ := EV_en (OPN_ev h) k (by omega)
    obtain ⟨r, e1, e2, e3⟩ := ih (k + 1) (by omega) n n' (by omega) (by omega)
    have t46 : lg_cmp (σ.2.2 11 k) 46 = 0 ↔ tg (σ.2.2 11 k) = 46 := by rw [cmp_eq]; exact (tg_eq (c := 46) (by omega) (by omega)).symm
    unfold g_Fr_firstFunction_2 g_Mo_first_2 g_Fr_firstFunction_43 g_Mo_first_44 g_Mo_first_42
    rw [hn1, hm1, if_pos (nI_lt (by omega) (by omega)), if_pos (nI_lt (by omega) (by omega)), inb_nI (by omega) (by decide), gd_t, gd_t, nI_clamp (by omega), E.2.2.1, show nI k + 1 = nI (k + 1) from nI_add k 1]
    by_cases c : tg (σ.2.2 11 k) = 46
    · rw [if_pos (t46.mpr c), if_pos c, ho_c h (by omega), bd_t, ho_m h (by omega) hx, bd_t]
      cases hh : HO τ x bnd k with
      | true =>
        rw [if_neg (show ¬ bi true = 0 by decide), if_neg (show ¬ bi true = 0 by decide), if_pos rfl]
        exact ⟨some k, rfl, rfl, fun e z => by cases z; exact ⟨by omega, (cmp_eq _ _).mp (t46.mpr c)⟩⟩
      | false =>
        rw [if_pos (show bi false = 0 by decide), if_pos (show bi false = 0 by decide)]
        exact ⟨r, e1, e2, e3⟩
    · rw [if_neg (fun z => c (t46.mp z)), if_neg c]
      exact ⟨r, e1, e2, e3⟩
/-! the first that is put into another, both sides -/
def PTI (σ : am_S) (N hh e : Nat) : Prop := e < N ∧ σ.2.2 11 e = 29 ∧ σ.2.1 13 hh = σ.2.1 13 e ∧ ∀ d, DP σ d e → ∃ k, k < d ∧ DP σ k hh
theorem fpi_l {σ τ : am_S} {N U hh : Nat} {fs A Z bnd wb : Nat → Nat} {x : Int64} (h : OPN σ τ N U fs A Z bnd wb) (hx : τ.1.2 0 59 = x) (hh' : hh < N) : ∀ j k, k + j = N → ∀ n n', j < n → j < n' → ∃ r : Option Nat, g_Fr_firstPutInto_5 n (nI hh) x (nI k) σ = some (oN r, σ) ∧ g_Mo_first_2 n' 29 (nI hh) (nI k) τ = some (oN r, τ) ∧ ∀ e, r = some e → PTI σ N hh e := by
  have hl := EV_l (OPN_ev h)
  have hn1 := EV_n (OPN_ev h)
  have hm1 := EV_m (OPN_ev h)
  intro j
  induction j with
  | zero =>
    intro k hk n n' hn hn'
    obtain ⟨n, rfl⟩ : ∃ z, n = z + 1 := ⟨n - 1, by omega⟩
    obtain ⟨n', rfl⟩ : ∃ z, n' = z + 1 := ⟨n' - 1, by omega⟩
    refine ⟨none, ?_, ?_, fun e z => by cases z⟩
    · rw [g_Fr_firstPutInto_5, hn1, if_neg (nI_nlt (by omega) (by omega))]; rfl
    · rw [g_Mo_first_2, hm1, if_neg (nI_nlt (by omega) (by omega))]; rfl
  | succ j ih =>
    intro k hk n n' hn hn'
    obtain ⟨n, rfl⟩ : ∃ z, n = z + 1 := ⟨n - 1, by omega⟩
    obtain ⟨n', rfl⟩ : ∃ z, n' = z + 1 := ⟨n' - 1, by omega⟩
    obtain ⟨u, hu, E⟩ := EV_en (OPN_ev h) k (by omega)
    obtain ⟨r, e1, e2, e3⟩ := ih (k + 1) (by omega) n n' (by omega) (by omega)
    have t29 : lg_cmp (σ.2.2 11 k) 29 = 0 ↔ tg (σ.2.2 11 k) = 29 := by rw [cmp_eq]; exact (tg_eq (c := 29) (by omega) (by omega)).symm
    unfold g_Fr_firstPutInto_5 g_Mo_first_2 g_Fr_firstPutInto_61 g_Mo_first_44 g_Mo_first_42
    rw [hn1, hm1, if_pos (nI_lt (by omega) (by omega)), if_pos (nI_lt (by omega) (by omega)), inb_nI (by omega) (by decide), gd_t, gd_t, nI_clamp (by omega), E.2.2.1, show nI k + 1 = nI (k + 1) from nI_add k 1]
    by_cases c : tg (σ.2.2 11 k) = 29
    · rw [if_pos (t29.mpr c), if_pos c, ho_c h (by omega), bd_t, ho_m h (by omega) hx, bd_t]
      cases hq : HO τ x bnd k with
      | true =>
        obtain ⟨b, i1, i2, i3⟩ := un_2 h hx hh' (show k < N by omega)
        rw [if_neg (show ¬ bi true = 0 by decide), if_neg (show ¬ bi true = 0 by decide), if_neg (nI_ne (by omega)), i1, i2, bd_t, bd_t]
        cases b with
        | true =>
          rw [if_neg (show ¬ bi true = 0 by decide), if_neg (show ¬ bi true = 0 by decide)]
          exact ⟨some k, rfl, rfl, fun e z => by cases z; exact ⟨by omega, (cmp_eq _ _).mp (t29.mpr c), (i3 rfl).2⟩⟩
        | false =>
          rw [if_pos (show bi false = 0 by decide), if_pos (show bi false = 0 by decide)]
          exact ⟨r, e1, e2, e3⟩
      | false =>
        rw [if_pos (show bi false = 0 by decide), if_pos (show bi false = 0 by decide)]
        exact ⟨r, e1, e2, e3⟩
    · rw [if_neg (fun z => c (t29.mp z)), if_neg c]
      exact ⟨r, e1, e2, e3⟩
theorem fpi_0 {σ τ : am_S} {N U hh : Nat} {fs A Z bnd wb : Nat → Nat} {x : Int64} (h : OPN σ τ N U fs A Z bnd wb) (hx : τ.1.2 0 59 = x) (hh' : hh < N) : ∀ j k, k + j = hh + 1 → ∀ n, g_Mo_first_2 (n + j) 29 (nI hh) (nI k) τ = g_Mo_first_2 n 29 (nI hh) (nI (hh + 1)) τ := by
  have hl := EV_l (OPN_ev h)
  have hm1 := EV_m (OPN_ev h)
  intro j
  induction j with
  | zero =>
    intro k hk n
    rw [show k = hh + 1 by omega]
    rfl
  | succ j ih =>
    intro k hk n
    rw [show n + (j + 1) = n + j + 1 from rfl, ← ih (k + 1) (by omega) n]
    obtain ⟨u, hu, E⟩ := EV_en (OPN_ev h) k (by omega)
    obtain ⟨b, i1, i2, i3⟩ := un_2 h hx hh' (show k < N by omega)
    rw [g_Mo_first_2]
    unfold g_Mo_first_44 g_Mo_first_42
    rw [hm1, if_pos (nI_lt (by omega) (by omega)), inb_nI (by omega) (by decide), gd_t, nI_clamp (by omega), E.2.2.1, show nI k + 1 = nI (k + 1) from nI_add k 1]
    by_cases c : tg (σ.2.2 11 k) = 29
    · rw [if_pos c, ho_m h (by omega) hx, bd_t]
      cases hq : HO τ x bnd k with
      | true =>
        rw [if_neg (show ¬ bi true = 0 by decide), if_neg (nI_ne (by omega)), i2, bd_t]
        cases b with
        | true => have := (i3 rfl).1; omega
        | false => rw [if_pos (show bi false = 0 by decide)]
      | false => rw [if_pos (show bi false = 0 by decide)]
    · rw [if_neg c]
theorem fpi_2 {σ τ : am_S} {N U hh : Nat} {fs A Z bnd wb : Nat → Nat} {x : Int64} (h : OPN σ τ N U fs A Z bnd wb) (hx : τ.1.2 0 59 = x) (hh' : hh < N) : ∃ r : Option Nat, g_Fr_firstPutInto (nI hh) x σ = some (oN r, σ) ∧ g_Mo_first 29 (nI hh) τ = some (oN r, τ) ∧ ∀ e, r = some e → PTI σ N hh e := by
  have hl := EV_l (OPN_ev h)
  obtain ⟨r, e1, e2, e3⟩ := fpi_l h hx hh' (N - (hh + 1)) (hh + 1) (by omega) 4000 (4000 - (hh + 1)) (by omega) (by omega)
  refine ⟨r, ?_, ?_, e3⟩
  · unfold g_Fr_firstPutInto
    rw [show nI hh + 1 = nI (hh + 1) from nI_add hh 1]
    exact e1
  · unfold g_Mo_first
    have := fpi_0 h hx hh' (hh + 1) 0 (by omega) (4000 - (hh + 1))
    rw [show 4000 - (hh + 1) + (hh + 1) = 4000 by omega] at this
    exact this.trans e2
/-! the chain, both sides -/
def CHN (σ : am_S) (N u : Nat) (c : Nat → Nat) (k : Nat) : Prop := ∀ i, i < k → c i < N ∧ (σ.2.2 11 (c i) = 46 ∨ σ.2.2 11 (c i) = 29) ∧ σ.2.1 13 (c i) = nI u ∧ ∀ d, DP σ d (c i) → i + 1 ≤ d
theorem CHN_fr {W : List (Nat × Nat)} {A : List Nat} {σ s : am_S} {N u k : Nat} {c : Nat → Nat} (h : CHN σ N u c k) (f : FR W A σ s) (n : (A.contains 11 || A.contains 12 || A.contains 13) = false) : CHN s N u c k := by
  simp only [Bool.or_eq_false_iff] at n
  obtain ⟨⟨n1, n2⟩, n3⟩ := n
  intro i hi
  obtain ⟨h1, h2, h3, h4⟩ := h i hi
  rw [fr_c f n1, fr_b f n3]
  exact ⟨h1, h2, h3, fun d hd => h4 d (DP_up (N := c i + 1) (σ := s) (s := σ) (fun _ _ => by rw [fr_b f n2]) (fun _ _ => by rw [fr_b f n3]) d (c i) (by omega) hd)⟩
theorem cw_l {N U u : Nat} {fs A Z bnd wb : Nat → Nat} {x : Int64} : ∀ j i, i + j = 16 → ∀ (σ τ : am_S) (c : Nat → Nat) (r : Option Nat), OPN σ τ N U fs A Z bnd wb → τ.1.2 0 59 = x → (∀ m, m < i → σ.2.1 59 m = nI (c m)) → (∀ m, m < i → τ.2.1 33 m = nI (c m)) → τ.1.1 0 55 = nI i → CHN σ N u c i → (r = none → 1 ≤ i) → (∀ e, r = some e → CHN σ N u (fun m => if m < i then c m else e) (i + 1)) → ∀ n n', j < n → j + 1 < n' → ∃ s k c t, 1 ≤ k ∧ k ≤ 16 ∧ g_Fr_addChain_9 n x (nI i) (oN r) (nI i) σ = g_Fr_addChain_52 x (nI k) s ∧ g_Mo_find_43 n' (oN r) τ = some (nI k, t) ∧ FR [] [59] σ s ∧ FR [(0, 55), (0, 56)] [33] τ t ∧ t.1.1 0 55 = nI k ∧ t.1.1 0 56 = nI k ∧ (∀ m, m < k → s.2.1 59 m = nI (c m)) ∧ (∀ m, m < k → t.2.1 33 m = nI (c m)) ∧ CHN s N u c k := by
  intro j
  have fin : ∀ i, i ≤ 16 → 1 ≤ i → ∀ (τ : am_S) (n' : Nat), 0 < n' → τ.1.1 0 55 = nI i → g_Mo_find_43 n' (-1) τ = some (nI i, am_fi τ 0 56 (τ.1.1 0 55)) := by
    intro i hi h1 τ n' hn h55
    obtain ⟨n', rfl⟩ : ∃ z, n' = z + 1 := ⟨n' - 1, by omega⟩
    unfold g_Mo_find_43 g_Mo_find_102 g_Mo_find_143
    rw [if_pos rfl, if_neg (by rw [h55]; exact nI_ne0 (by omega) (by omega)), if_pos rfl, fi_at, h55]
  induction j with
  | zero =>
    intro i hi σ τ c r hO hx h59 h33 h55 hC hr he n n' hn hn'
    obtain ⟨n, rfl⟩ : ∃ z, n = z + 1 := ⟨n - 1, by omega⟩
    have hl := EV_l (OPN_ev hO)
    cases r with
    | some e =>
      obtain ⟨g1, g2, g3, g4⟩ := he e rfl i (by omega)
      simp only [Nat.lt_irrefl, if_false] at g1 g2 g3 g4
      obtain ⟨u', hu', E⟩ := EV_en (OPN_ev hO) e g1
      obtain ⟨_, _, _, _, _, _, ⟨d, hd, hD, _⟩, _⟩ := E
      have := g4 d hD
      omega
    | none =>
      refine ⟨σ, i, c, _, by omega, by omega, ?_, fin i (by omega) (by omega) τ n' (by omega) h55, fr_rf, fr_fi fr_rf (by decide), ?_, ?_, h59, h33, hC⟩
      · unfold g_Fr_addChain_9
        rw [if_neg (show ¬ nI i < 16 from nI_nlt (b := 16) (by omega) (by omega))]
      · rw [fi_no (by decide)]; exact h55
      · rw [fi_at]; exact h55
  | succ j ih =>
    intro i hi σ τ c r hO hx h59 h33 h55 hC hr he n n' hn hn'
    obtain ⟨n, rfl⟩ : ∃ z, n = z + 1 := ⟨n - 1, by omega⟩
    have hl := EV_l (OPN_ev hO)
    cases r with
    | none =>
      have := hr rfl
      refine ⟨σ, i, c, _, by omega, by omega, ?_, fin i (by omega) (by omega) τ n' (by omega) h55, fr_rf, fr_fi fr_rf (by decide), ?_, ?_, h59, h33, hC⟩
      · unfold g_Fr_addChain_9
        rw [if_pos (show nI i < 16 from nI_lt (b := 16) (by omega) (by omega)), show oN none = -1 from rfl, if_pos rfl]
      · rw [fi_no (by decide)]; exact h55
      · rw [fi_at]; exact h55
    | some e =>
      obtain ⟨n', rfl⟩ : ∃ z, n' = z + 1 := ⟨n' - 1, by omega⟩
      have hce := he e rfl
      obtain ⟨g1, g2, g3, g4⟩ := hce i (by omega)
      simp only [Nat.lt_irrefl, if_false] at g1 g2 g3 g4
      have f1 : FR [] [59] σ (am_ai σ 59 i (nI e)) := fr_ai fr_rf (by decide)
      have f2 : FR [(0, 55), (0, 56)] [33] τ (am_fi (am_ai τ 33 i (nI e)) 0 55 (nI (i + 1))) := fr_fi (fr_ai fr_rf (by decide)) (by decide)
      have O' : OPN (am_ai σ 59 i (nI e)) (am_fi (am_ai τ 33 i (nI e)) 0 55 (nI (i + 1))) N U fs A Z bnd wb := OPN_fr hO f1 f2 (by decide) (by decide) (by decide) (by decide)
      obtain ⟨r', p1, p2, p3⟩ := fpi_2 (x := x) O' hx g1
      have hC' : CHN (am_ai σ 59 i (nI e)) N u (fun m => if m < i then c m else e) (i + 1) := CHN_fr hce f1 (by decide)
      obtain ⟨s, k, c', t, q1, q2, q3, q4, q5, q6, q7⟩ := ih (i + 1) (by omega) _ _ (fun m => if m < i then c m else e) r' O' hx (fun m hm => by
        by_cases cm : m = i
        · subst cm
          rw [ai_at]
          simp only [Nat.lt_irrefl, if_false]
        · rw [ai_no (Or.inr cm), h59 m (by omega)]
          simp only [show m < i by omega, if_true]) (fun m hm => by
        show (am_ai τ 33 i (nI e)).2.1 33 m = _
        by_cases cm : m = i
        · subst cm
          rw [ai_at]
          simp only [Nat.lt_irrefl, if_false]
        · rw [ai_no (Or.inr cm), h33 m (by omega)]
          simp only [show m < i by omega, if_true]) (by rw [fi_at]) hC' (fun _ => by omega) (fun e' he' => by
        obtain ⟨w1, w2, w3, w4⟩ := p3 e' he'
        intro m hm
        by_cases cm : m < i + 1
        · simp only [cm, if_true]
          exact hC' m cm
        · simp only [cm, if_false]
          obtain ⟨v1, v2, v3, v4⟩ := hC' i (by omega)
          simp only [Nat.lt_irrefl, if_false] at v1 v2 v3 v4
          refine ⟨w1, Or.inr w2, w3.symm.trans v3, fun d hd => ?_⟩
          obtain ⟨k, hk, hk'⟩ := w4 d hd
          have := v4 k hk'
          omega) n n' (by omega) (by omega)
      refine ⟨s, k, c', t, q1, q2, ?_, ?_, fr_tr f1 q5, fr_tr f2 q6, q7⟩
      · refine Eq.trans ?_ q3
        rw [g_Fr_addChain_9]
        rw [if_pos (show nI i < 16 from nI_lt (b := 16) (by omega) (by omega)), oN_s, if_neg (nI_ne (by omega)), inb_nI (by omega) (by decide), gd_t, nI_clamp (by omega), p1, bd_t, show nI i + 1 = nI (i + 1) from nI_add i 1]
      · rw [← q4]
        rw [g_Mo_find_43]
        rw [oN_s, if_neg (nI_ne (by omega)), h55, inb_nI (by omega) (by decide), gd_t, nI_clamp (by omega), show nI i + 1 = nI (i + 1) from nI_add i 1, p2, bd_t]
