/-! the entries without their values -/
def SV (σ τ : am_S) (i j : Nat) : Prop := σ.2.1 15 i = τ.2.1 20 j ∧ FZ (τ.2.1 20 j) ∧ (τ.2.1 20 j = 8 → ∃ b, τ.2.2 21 j = lN b ∧ TX (σ.2.1 1) b)
def FV (σ τ : am_S) (e u : Nat) : Prop := (LK (σ.2.2 11 e) → ∀ k, k < 7 → SV σ τ (7 * e + k) (11 * e + k)) ∧ (¬ LK (σ.2.2 11 e) → ∀ k, k < 7 → σ.2.1 15 (7 * e + k) = 0) ∧ (σ.2.2 11 e = 17 → ∀ k, k < 4 → US σ τ (4 * u + k) (11 * e + (7 + k)))
def EV1 (σ τ : am_S) (e u : Nat) : Prop := σ.2.1 13 e = nI u ∧ τ.2.1 19 e = nI u ∧ τ.2.1 17 e = tg (σ.2.2 11 e) ∧ σ.2.1 12 e = τ.2.1 18 e ∧ (∃ pl, pl ≤ 3000 ∧ σ.2.1 14 e = nI pl ∧ τ.2.1 16 e = nI pl) ∧ FV σ τ e u ∧ (∃ d, d ≤ 16 ∧ DP σ d e ∧ (d = 0 ↔ σ.2.2 11 e = 17)) ∧ (σ.2.2 11 e = 17 → σ.2.1 18 u = nI e)
def EV (σ τ : am_S) (N U : Nat) (fs A Z : Nat → Nat) : Prop := (σ.2.1 1 = τ.2.1 2) ∧ (SXc σ A Z) ∧ (SXm τ A Z) ∧ (σ.1.1 10 10 = nI N) ∧ (τ.1.1 0 22 = nI N) ∧ (N ≤ 200) ∧ (σ.1.1 10 11 = nI U) ∧ (τ.1.1 0 21 = nI U) ∧ (U ≤ 4) ∧ (∀ e, e < N → ∃ u, u < U ∧ EV1 σ τ e u) ∧ (∀ u, u < U → UN1 σ τ N u (fs u)) ∧ (∀ u, u < U → fs u < N)
theorem EV_b {σ τ : am_S} {N U : Nat} {fs A Z : Nat → Nat} (h : EV σ τ N U fs A Z) : σ.2.1 1 = τ.2.1 2 := h.1
theorem EV_xc {σ τ : am_S} {N U : Nat} {fs A Z : Nat → Nat} (h : EV σ τ N U fs A Z) : SXc σ A Z := h.2.1
theorem EV_xm {σ τ : am_S} {N U : Nat} {fs A Z : Nat → Nat} (h : EV σ τ N U fs A Z) : SXm τ A Z := h.2.2.1
theorem EV_n {σ τ : am_S} {N U : Nat} {fs A Z : Nat → Nat} (h : EV σ τ N U fs A Z) : σ.1.1 10 10 = nI N := h.2.2.2.1
theorem EV_m {σ τ : am_S} {N U : Nat} {fs A Z : Nat → Nat} (h : EV σ τ N U fs A Z) : τ.1.1 0 22 = nI N := h.2.2.2.2.1
theorem EV_l {σ τ : am_S} {N U : Nat} {fs A Z : Nat → Nat} (h : EV σ τ N U fs A Z) : N ≤ 200 := h.2.2.2.2.2.1
theorem EV_u {σ τ : am_S} {N U : Nat} {fs A Z : Nat → Nat} (h : EV σ τ N U fs A Z) : σ.1.1 10 11 = nI U := h.2.2.2.2.2.2.1
theorem EV_v {σ τ : am_S} {N U : Nat} {fs A Z : Nat → Nat} (h : EV σ τ N U fs A Z) : τ.1.1 0 21 = nI U := h.2.2.2.2.2.2.2.1
theorem EV_u4 {σ τ : am_S} {N U : Nat} {fs A Z : Nat → Nat} (h : EV σ τ N U fs A Z) : U ≤ 4 := h.2.2.2.2.2.2.2.2.1
theorem EV_en {σ τ : am_S} {N U : Nat} {fs A Z : Nat → Nat} (h : EV σ τ N U fs A Z) : ∀ e, e < N → ∃ u, u < U ∧ EV1 σ τ e u := h.2.2.2.2.2.2.2.2.2.1
theorem EV_un {σ τ : am_S} {N U : Nat} {fs A Z : Nat → Nat} (h : EV σ τ N U fs A Z) : ∀ u, u < U → UN1 σ τ N u (fs u) := h.2.2.2.2.2.2.2.2.2.2.1
theorem EV_fl {σ τ : am_S} {N U : Nat} {fs A Z : Nat → Nat} (h : EV σ τ N U fs A Z) : ∀ u, u < U → fs u < N := h.2.2.2.2.2.2.2.2.2.2.2
/-- the values as they were read -/
def RAW (σ τ : am_S) (e : Nat) : Prop := LK (σ.2.2 11 e) → ∀ k, k < 7 → ¬ τ.2.1 20 (11 * e + k) = 0 → σ.2.2 16 (7 * e + k) = τ.2.2 21 (11 * e + k)
theorem EV_of {σ τ : am_S} {N U : Nat} {fs : Nat → Nat} (h : UL σ τ N U fs) : ∃ A Z, EV σ τ N U fs A Z ∧ ∀ e, e < N → RAW σ τ e := by
  obtain ⟨A, Z, hc, hm⟩ := SX_of (UL_sr h)
  refine ⟨A, Z, ⟨UL_b h, hc, hm, UL_n h, UL_m h, UL_l h, UL_u h, UL_v h, UL_u4 h, fun e he => ?_, UL_un h, UL_fl h⟩, fun e he => ?_⟩
  · obtain ⟨u, hu, h1, h2, h3, h4, h5, ⟨h6, h7, h8⟩, h9, h10⟩ := UL_en h e he
    exact ⟨u, hu, h1, h2, h3, h4, h5, ⟨fun l k hk => ⟨(h6 l k hk).1, (h6 l k hk).2.1, (h6 l k hk).2.2.2⟩, h7, h8⟩, h9, h10⟩
  · obtain ⟨u, hu, h1, h2, h3, h4, h5, ⟨h6, h7, h8⟩, h9, h10⟩ := UL_en h e he
    exact fun l k hk => (h6 l k hk).2.2.1
/-! what the values lead to, by functions -/
def bas (τ : am_S) (f k : Nat) : Int64 := if τ.2.1 20 (11 * f + k) = 0 then 0 else τ.2.2 21 (11 * f + k)
def nmS (B : Nat → Int32) (A Z : Nat → Nat) (f : Int32) (v base : Int64) : Option Nat := if f = 8 then some v.toInt.toNat else if f = 14 then txt B (A 2) (A 2 + Z 2) v else if f = 31 then txt B (A 3) (A 3 + Z 3) v else if f = 37 then (match idx (A 4) (Z 4) 4 base v with | some p => txt B (A 2) (A 2 + Z 2) (lN (num B p 4)) | none => none) else none
def adS (B : Nat → Int32) (A Z : Nat → Nat) (f : Int32) (v base : Int64) : Option Int64 := if f = 1 then some v else if f = 27 then (idx (A 5) (Z 5) 8 base v).map (fun p => lN (num B p 8)) else none
def lsS (B : Nat → Int32) (A Z : Nat → Nat) (f : Int32) (v base : Int64) : Option Int64 := if f = 23 then some v else if f = 35 then (idx (A 6) (Z 6) 4 base v).map (fun p => base + lN (num B p 4)) else none
theorem ba_c {σ τ : am_S} {N U u k : Nat} {fs A Z : Nat → Nat} (h : EV σ τ N U fs A Z) (hu : u < U) (hk : k < 4) : g_Va_baseOf (nI u) (nI k) σ = some (bas τ (fs u) (7 + k), σ) := by
  have hu4 := EV_u4 h
  have hf := EV_fl h u hu
  obtain ⟨q1, q2, q3, q4, q5, q6⟩ := EV_un h u hu
  obtain ⟨q5, q7⟩ := q5 hf
  obtain ⟨u', hu', E⟩ := EV_en h (fs u) hf
  have : u' = u := (nI_eq (by omega) (by omega)).mp (E.1.symm.trans q5)
  subst this
  have hU := E.2.2.2.2.2.1.2.2 q7 k hk
  unfold g_Va_baseOf bas
  rw [show nI u' * 4 = nI (4 * u') from (pk_mul u' 4).trans (by rw [Nat.mul_comm]), nI_add, inb_nI (by omega) (by decide), gd_t, nI_clamp (by omega)]
  by_cases c : τ.2.1 20 (11 * fs u' + (7 + k)) = 0
  · rw [if_pos c, hU.2.2.2 c]
  · rw [if_neg c, hU.2.2.1 c]
theorem VB_l {W : List (Nat × Nat)} {o : Option Int64} {σ s t : am_S} {w w' : Int64} (h : VB W none σ w s) (h' : VB W o s w' t) : VB W none σ w' t := by
  refine ⟨fr_tr h.1 h'.1, ?_⟩
  have h1 : ¬ s.1.1 37 6 = 0 := h.2
  show ¬ t.1.1 37 6 = 0
  cases o with
  | some x => exact fun z => h1 (h'.2.2.mp z)
  | none => exact h'.2
theorem VB_r {W : List (Nat × Nat)} {o : Option Int64} {σ s t : am_S} {x w w' : Int64} (h : VB W (some x) σ w s) (h' : VB W o s w' t) : VB W o σ w' t := by
  refine ⟨fr_tr h.1 h'.1, ?_⟩
  cases o with
  | some y => exact ⟨h'.2.1, h'.2.2.trans h.2.2⟩
  | none => exact h'.2
theorem SXc_fr {W : List (Nat × Nat)} {σ s : am_S} {A Z : Nat → Nat} (h : SXc σ A Z) (f : FR W [] σ s) : SXc s A Z := fun k hk => by
  rw [fr_b f (k := 6) rfl, fr_b f (k := 7) rfl]
  exact h k hk
theorem te_c {σ τ : am_S} {N U u : Nat} {fs A Z : Nat → Nat} {f : Int32} {v : Int64} (h : EV σ τ N U fs A Z) (hu : u < U) (h8 : f = 8 → ∃ b, v = lN b ∧ TX (σ.2.1 1) b) : R1 (g_Va_text (nI u) f v σ) (fun w s => VB VW (oL (nmS (σ.2.1 1) A Z f v (bas τ (fs u) 8))) σ w s) := by
  unfold g_Va_text nmS
  by_cases c1 : f = 8
  · rw [if_pos c1, if_pos c1]
    obtain ⟨b, rfl, e, h1, h2, _⟩ := h8 c1
    rw [lN_toInt (by omega)]
    exact R1_p ⟨fr_rf, rfl, Iff.rfl⟩
  · rw [if_neg c1, if_neg c1]
    by_cases c2 : f = 14
    · rw [if_pos c2, if_pos c2]
      exact R1_b (tx_c (s := 2) (EV_xc h) (by decide)) (fun w s _ k => R1_p k)
    · rw [if_neg c2, if_neg c2]
      by_cases c3 : f = 31
      · rw [if_pos c3, if_pos c3]
        exact R1_b (tx_c (s := 3) (EV_xc h) (by decide)) (fun w s _ k => R1_p k)
      · rw [if_neg c3, if_neg c3]
        by_cases c4 : f = 37
        · rw [if_pos c4, if_pos c4, show g_Va_baseOf (nI u) 1 σ = _ from ba_c (k := 1) h hu (by decide), bd_t]
          refine R1_b (na_c (s := 4) (n := 4) (EV_xc h) (by decide) (by decide) (by decide)) (fun w s _ k => ?_)
          have SX := SXc_fr (EV_xc h) k.1
          refine R1_b (tx_c (s := 2) SX (by decide)) (fun w2 s2 _ k2 => ?_)
          rw [fr_b k.1 (k := 1) (by decide)] at k2
          cases hi : idx (A 4) (Z 4) 4 (bas τ (fs u) (7 + 1)) v with
          | some p =>
            rw [hi] at k
            rw [k.2.1] at k2
            exact R1_p (VB_r k k2)
          | none =>
            rw [hi] at k
            exact R1_p (VB_l k k2)
        · rw [if_neg c4, if_neg c4]
          exact R1_b wr_c (fun w s _ k => R1_p k)
theorem ata_c {σ τ : am_S} {N U u : Nat} {fs A Z : Nat → Nat} {v : Int64} (h : EV σ τ N U fs A Z) (hu : u < U) : R1 (g_Va_addressAt (nI u) v σ) (fun w s => VB VW ((idx (A 5) (Z 5) 8 (bas τ (fs u) 9) v).map (fun p => lN (num (σ.2.1 1) p 8))) σ w s) := by
  unfold g_Va_addressAt
  rw [show g_Va_baseOf (nI u) 2 σ = _ from ba_c (k := 2) h hu (by decide), bd_t]
  exact R1_b (na_c (s := 5) (n := 8) (EV_xc h) (by decide) (by decide) (by decide)) (fun w s _ k => R1_p k)
theorem ad_c' {σ τ : am_S} {N U u : Nat} {fs A Z : Nat → Nat} {f : Int32} {v : Int64} (h : EV σ τ N U fs A Z) (hu : u < U) : R1 (g_Va_address (nI u) f v σ) (fun w s => VB VW (adS (σ.2.1 1) A Z f v (bas τ (fs u) 9)) σ w s) := by
  unfold g_Va_address g_Va_address_26 adS
  by_cases c1 : f = 1
  · rw [if_pos c1, if_pos c1]
    exact R1_p ⟨fr_rf, rfl, Iff.rfl⟩
  · rw [if_neg c1, if_neg c1]
    by_cases c2 : f = 27
    · rw [if_pos c2, if_pos c2]
      exact R1_b (ata_c h hu) (fun w s _ k => R1_p k)
    · rw [if_neg c2, if_neg c2]
      exact R1_b wr_c (fun w s _ k => R1_p k)
theorem ls_c {σ τ : am_S} {N U u : Nat} {fs A Z : Nat → Nat} {f : Int32} {v : Int64} (h : EV σ τ N U fs A Z) (hu : u < U) : R1 (g_Va_listPlace (nI u) f v σ) (fun w s => VB VW (lsS (σ.2.1 1) A Z f v (bas τ (fs u) 10)) σ w s) := by
  unfold g_Va_listPlace g_Va_listPlace_42 lsS
  by_cases c1 : f = 23
  · rw [if_pos c1, if_pos c1]
    exact R1_p ⟨fr_rf, rfl, Iff.rfl⟩
  · rw [if_neg c1, if_neg c1, show g_Va_baseOf (nI u) 3 σ = _ from ba_c (k := 3) h hu (by decide), bd_t]
    by_cases c2 : f = 35
    · rw [if_pos c2, if_pos c2]
      refine R1_b (na_c (s := 6) (n := 4) (EV_xc h) (by decide) (by decide) (by decide)) (fun w s _ k => ?_)
      cases hi : idx (A 6) (Z 6) 4 (bas τ (fs u) (7 + 3)) v with
      | some p =>
        rw [hi] at k
        refine R1_p ⟨k.1, ?_, k.2.2⟩
        rw [k.2.1]
      | none =>
        rw [hi] at k
        exact R1_p k
    · rw [if_neg c2, if_neg c2]
      exact R1_b wr_c (fun w s _ k => R1_p k)
/-! the entry that begins somewhere -/
def fp (P : Nat → Bool) : Nat → Nat → Option Nat
  | 0, _ => none
  | j + 1, k => if P k then some k else fp P j (k + 1)
theorem fp_none {P : Nat → Bool} : ∀ j k, (∀ m, k ≤ m → m < k + j → P m = false) → fp P j k = none
  | 0, _, _ => rfl
  | j + 1, k, h => by
    unfold fp
    rw [h k (by omega) (by omega)]
    exact fp_none j (k + 1) (fun m h1 h2 => h m (by omega) (by omega))
theorem fp_skip {P : Nat → Bool} : ∀ i j k, (∀ m, k ≤ m → m < k + i → P m = false) → fp P (i + j) k = fp P j (k + i)
  | 0, j, k, _ => by rw [Nat.zero_add]; rfl
  | i + 1, j, k, h => by
    have e := fp_skip i j (k + 1) (fun m h1 h2 => h m (by omega) (by omega))
    have e2 : fp P (i + j + 1) k = fp P (i + j) (k + 1) := by
      rw [fp, h k (by omega) (by omega)]
      rfl
    rw [show i + 1 + j = i + j + 1 by omega, e2, e, show k + (i + 1) = k + 1 + i by omega]
theorem fp_lt {P : Nat → Bool} : ∀ {j k m : Nat}, fp P j k = some m → k ≤ m ∧ m < k + j ∧ P m = true
  | 0, _, _, h => by cases h
  | j + 1, k, m, h => by
    unfold fp at h
    by_cases c : P k = true
    · rw [if_pos c] at h
      cases h
      exact ⟨by omega, by omega, c⟩
    · rw [if_neg c] at h
      have := fp_lt h
      exact ⟨by omega, by omega, this.2.2⟩
def orP (τ : am_S) (u : Nat) (v : Int64) (k : Nat) : Bool := decide (τ.2.1 19 k = nI u) && (decide (τ.2.1 17 k = 46) || decide (τ.2.1 17 k = 29)) && decide ((τ.2.1 16 k).toInt64 = (τ.2.1 13 u).toInt64 + v)
