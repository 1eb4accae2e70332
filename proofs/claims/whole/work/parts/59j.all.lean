/-! the values of all entries, both sides -/
theorem rsv_fr {W : List (Nat × Nat)} {A' : List Nat} {τ t : am_S} {B : Nat → Int32} {A Z : Nat → Nat} {N e u g k : Nat} (f : FR W A' τ t) (n : [13, 16, 17, 19, 20, 21].all (fun k => !A'.contains k) = true) : rsv B A Z N t e u g k = rsv B A Z N τ e u g k := by
  simp only [List.all_cons, List.all_nil, Bool.and_true, Bool.and_eq_true, Bool.not_eq_true'] at n
  obtain ⟨n13, n16, n17, n19, n20, n21⟩ := n
  unfold rsv rsp orP bas
  rw [fr_b f n13, fr_b f n16, fr_b f n17, fr_b f n19, fr_b f n20, fr_c f n21]
def BN (σ τ : am_S) (bnd : Nat → Nat) (e : Nat) : Prop := ∀ i, i < e → (bnd i ≤ bnd (i + 1) ∧ bnd (i + 1) ≤ 300) ∧ σ.2.1 35 i = nI (bnd i) ∧ σ.2.1 36 i = nI (bnd (i + 1)) ∧ τ.2.1 22 i = nI (bnd i)
def ST3 (σ τ : am_S) (N U : Nat) (fs A Z : Nat → Nat) (e : Nat) (bnd : Nat → Nat) : Prop := EV σ τ N U fs A Z ∧ RN σ τ (bnd e) ∧ σ.1.1 37 6 = 0 ∧ (∀ i, i < e → ∀ u, u < U → τ.2.1 19 i = nI u → DN σ τ N fs A Z i u) ∧ (∀ i, e ≤ i → i < N → RAW σ τ i) ∧ BN σ τ bnd e
def mB (M : Int32 → Int32 → am_S → Option (Int32 × am_S)) (x2 : Int32) (σ : am_S) : Option (Int32 × am_S) :=
      am_gd (inb x2 201) <|
      am_gd (inb x2 200) <|
      if ((am_ai σ 22 x2.toNatClampNeg (σ.1.1 0 33)).2.1 17 x2.toNatClampNeg) = 17 then
        g_Mo_readValues_70 M x2 (am_ai σ 22 x2.toNatClampNeg (σ.1.1 0 33))
      else
        am_gd (inb x2 200) <|
        if ((am_ai σ 22 x2.toNatClampNeg (σ.1.1 0 33)).2.1 17 x2.toNatClampNeg) = 46 then
          g_Mo_readValues_70 M x2 (am_ai σ 22 x2.toNatClampNeg (σ.1.1 0 33))
        else
          am_gd (inb x2 200) <|
          if ((am_ai σ 22 x2.toNatClampNeg (σ.1.1 0 33)).2.1 17 x2.toNatClampNeg) = 29 then
            g_Mo_readValues_70 M x2 (am_ai σ 22 x2.toNatClampNeg (σ.1.1 0 33))
          else
            am_gd (inb x2 200) <|
            if ((am_ai σ 22 x2.toNatClampNeg (σ.1.1 0 33)).2.1 17 x2.toNatClampNeg) = 11 then
              g_Mo_readValues_70 M x2 (am_ai σ 22 x2.toNatClampNeg (σ.1.1 0 33))
            else
              g_Mo_readValues_75 M x2 (0) (am_ai σ 22 x2.toNatClampNeg (σ.1.1 0 33))
theorem mB_eq {M : Int32 → Int32 → am_S → Option (Int32 × am_S)} {e : Nat} {τ : am_S} {x : Int64} (he : e < 200) (h17 : τ.2.1 17 e = tg x) : (LK x → mB M (nI e) τ = g_Mo_readValues_75 M (nI e) 1 (am_ai τ 22 e (τ.1.1 0 33))) ∧ (¬ LK x → mB M (nI e) τ = g_Mo_readValues_75 M (nI e) 0 (am_ai τ 22 e (τ.1.1 0 33))) := by
  have e17 : (am_ai τ 22 e (τ.1.1 0 33)).2.1 17 e = tg x := by rw [ai_r (by decide)]; exact h17
  unfold mB g_Mo_readValues_70
  rw [inb_nI (show e < 201 by omega) (by decide), inb_nI he (by decide), nI_clamp (by omega), e17]
  simp only [gd_t]
  have t17 : tg x = 17 ↔ x = 17 := tg_eq (c := 17) (by omega) (by omega)
  have t46 : tg x = 46 ↔ x = 46 := tg_eq (c := 46) (by omega) (by omega)
  have t29 : tg x = 29 ↔ x = 29 := tg_eq (c := 29) (by omega) (by omega)
  have t11 : tg x = 11 ↔ x = 11 := tg_eq (c := 11) (by omega) (by omega)
  constructor
  · intro h
    by_cases c1 : tg x = 17
    · rw [if_pos c1]
    · rw [if_neg c1]
      by_cases c2 : tg x = 46
      · rw [if_pos c2]
      · rw [if_neg c2]
        by_cases c3 : tg x = 29
        · rw [if_pos c3]
        · rw [if_neg c3]
          by_cases c4 : tg x = 11
          · rw [if_pos c4]
          · rcases h with h | h | h | h
            · exact absurd (t17.mpr h) c1
            · exact absurd (t46.mpr h) c2
            · exact absurd (t29.mpr h) c3
            · exact absurd (t11.mpr h) c4
  · intro h
    rw [if_neg (fun z => h (Or.inl (t17.mp z))), if_neg (fun z => h (Or.inr (Or.inl (t46.mp z)))), if_neg (fun z => h (Or.inr (Or.inr (Or.inl (t29.mp z))))), if_neg (fun z => h (Or.inr (Or.inr (Or.inr (t11.mp z)))))]
theorem re_e {K : Int32 → am_S → Option (Int32 × am_S)} {e : Nat} {s : am_S} (he : e < 200) : g_Va_read_153 K (nI e) s = K (nI (e + 1)) (am_ai s 36 e (s.1.1 32 4)) := by
  unfold g_Va_read_153 g_Ra_end
  rw [inb_nI he (by decide), gd_t, bd_t, nI_clamp (by omega), show nI e + 1 = nI (e + 1) from nI_add e 1]
/-- the class goes on with what is wrong -/
theorem rb_c {σ τ0 : am_S} {N U e u r : Nat} {fs A Z : Nat → Nat} {K : Int32 → am_S → Option (Int32 × am_S)} (h : EV σ τ0 N U fs A Z) (he : e < N) (hu : u < U) (h13 : σ.2.1 13 e = nI u) (hr : r ≤ 300) (h4 : σ.1.1 32 4 = nI r) (hb : ¬ σ.1.1 37 6 = 0) : ∃ s', g_Va_read_100 K (nI e) σ = K (nI (e + 1)) s' ∧ ¬ s'.1.1 37 6 = 0 := by
  have hl := EV_l h
  have hu4 := EV_u4 h
  have he2 : e < 200 := by omega
  have hf := EV_fl h u hu
  have q2 := (EV_un h u hu).2.1
  unfold g_Va_read_100
  rw [show g_En_has (nI e) 3 σ = _ from ha_c (k := 3) he2 (by decide), bd_t]
  by_cases c3 : σ.2.1 15 (7 * e + 3) = 0
  · rw [if_pos c3, if_pos rfl, hp_c he2 c3, bd_t]
    by_cases c : σ.2.1 15 (7 * e + 1) = 0 ∨ σ.2.1 15 (7 * e + 2) = 0
    · rw [if_pos c, if_pos rfl, re_e he2]
      exact ⟨_, rfl, hb⟩
    · rw [if_neg c, if_neg i10, show g_En_valueOf (nI e) 1 σ = _ from vo_c (k := 1) he2 (by decide), bd_t, show g_En_valueOf (nI e) 2 σ = _ from vo_c (k := 2) he2 (by decide), bd_t]
      have : ∃ s', g_Va_addRange (σ.2.2 16 (7 * e + 1)) (σ.2.2 16 (7 * e + 2)) σ = some ((), s') ∧ ¬ s'.1.1 37 6 = 0 := by
        unfold g_Va_addRange g_Va_addRange_17 g_Ra_add g_Va_wrong
        rw [h4]
        by_cases c : r = 300
        · rw [if_pos (show nI r = 300 from c ▸ rfl), bd_t, if_pos rfl, bd_t]
          exact ⟨_, rfl, by rw [fi_at]; decide⟩
        · rw [if_neg (show ¬ nI r = 300 from fun z => c ((nI_eq (b := 300) (by omega) (by omega)).mp z)), inb_nI (by omega) (by decide), gd_t, gd_t, bd_t, if_neg i10]
          refine ⟨_, rfl, ?_⟩
          rw [fi_no (Or.inl (by decide))]
          exact hb
      obtain ⟨s', e1, e2⟩ := this
      rw [e1, bd_t, re_e he2]
      exact ⟨_, rfl, e2⟩
  · rw [if_neg c3, if_neg i10]
    unfold g_Va_readList
    rw [inb_nI he2 (by decide), gd_t, nI_clamp (by omega), h13, inb_nI (show u < 4 by omega) (by decide), gd_t, nI_clamp (by omega), q2, lo_c (by omega), bd_t]
    generalize (if σ.2.1 15 (7 * fs u + 1) = 0 then 0 else σ.2.2 16 (7 * fs u + 1)) = bs
    rw [show g_En_valueOf (nI e) 3 (am_fl σ 37 5 bs) = _ from vo_c (k := 3) he2 (by decide), bd_t]
    have hx : ∃ s', g_Se_point 38 6 ((am_fl σ 37 5 bs).2.2 16 (7 * e + 3)) (am_fl σ 37 5 bs) = some ((), s') := by
      obtain ⟨h6, h7, hle⟩ := EV_xc h 6 (by decide)
      generalize (am_fl σ 37 5 bs).2.2 16 (7 * e + 3) = x
      by_cases c : x < 0 ∨ lN (A 6 + Z 6 - A 6) < x
      · exact ⟨_, po_bad (k := 38) (s := 6) (σ := am_fl σ 37 5 bs) (by decide) h6 h7 (by omega) hle c⟩
      · obtain ⟨n, hn, rfl⟩ := in_pos (d := A 6 + Z 6 - A 6) (by omega) c
        exact ⟨_, po_ok (k := 38) (s := 6) (n := n) (σ := am_fl σ 37 5 bs) (by decide) h6 h7 hle (by omega)⟩
    obtain ⟨s', e1⟩ := hx
    have f1 := f_Se_point e1
    have b1 : ¬ s'.1.1 37 6 = 0 := by rw [fr_i f1 (by decide)]; exact hb
    rw [e1, bd_t]
    unfold g_Va_readList_51 g_Va_readList_131
    rw [if_neg b1]
    simp only [ite_self]
    rw [bd_t, re_e he2]
    exact ⟨_, rfl, b1⟩
theorem rsv_c {τ : am_S} {B : Nat → Int32} {A Z : Nat → Nat} {N e u g : Nat} (hB : B = τ.2.1 2) (h : ∀ m, m < 7 → ¬ τ.2.1 20 (11 * e + m) = 0 → ¬ rsv B A Z N τ e u g m = none) (hU : cU τ e) : cAll τ A Z N e u g := by
  subst hB
  refine ⟨?_, ?_, ?_, ?_, ?_, ?_, ?_, hU⟩
  · by_cases c : τ.2.1 20 (11 * e + 0) = 0
    · exact Or.inl c
    · refine Or.inr (fun z => h 0 (by decide) c ?_)
      show oL _ = none
      rw [z]
      rfl
  · by_cases c : τ.2.1 20 (11 * e + 1) = 0
    · exact Or.inl c
    · exact Or.inr (fun z => h 1 (by decide) c z)
  · by_cases c : τ.2.1 20 (11 * e + 2) = 0
    · exact Or.inl c
    · by_cases cc : cfB (τ.2.1 20 (11 * e + 2)) = true
      · exact Or.inr (Or.inl cc)
      · refine Or.inr (Or.inr (fun z => h 2 (by decide) c ?_))
        show (if cfB (τ.2.1 20 (11 * e + 2)) = true then _ else _) = none
        rw [if_neg cc]
        exact z
  · by_cases c : τ.2.1 20 (11 * e + 3) = 0
    · exact Or.inl c
    · refine Or.inr (Classical.byContradiction (fun z => h 3 (by decide) c ?_))
      show lsS _ _ _ _ _ _ = none
      unfold lsS
      rw [if_neg (fun q => z (Or.inl q)), if_neg (fun q => z (Or.inr q))]
  · by_cases c : τ.2.1 20 (11 * e + 4) = 0
    · exact Or.inl c
    · refine Or.inr (Classical.byContradiction (fun z => h 4 (by decide) c ?_))
      show (if τ.2.1 20 (11 * e + 4) = 19 then oL _ else none) = none
      by_cases c19 : τ.2.1 20 (11 * e + 4) = 19
      · rw [if_pos c19]
        cases hf : fp (orP τ u (τ.2.2 21 (11 * e + 4))) N 0 with
        | some k => exact absurd ⟨c19, by rw [hf]; exact fun q => by cases q⟩ z
        | none => rfl
      · rw [if_neg c19]
  · by_cases c : τ.2.1 20 (11 * e + 5) = 0
    · exact Or.inl c
    · refine Or.inr (Classical.byContradiction (fun z => h 5 (by decide) c ?_))
      show (if cfB (τ.2.1 20 (11 * e + 5)) = true then _ else none) = none
      rw [if_neg z]
  · by_cases c : τ.2.1 20 (11 * e + 6) = 0
    · exact Or.inl c
    · refine Or.inr (Classical.byContradiction (fun z => h 6 (by decide) c ?_))
      show (if cfB (τ.2.1 20 (11 * e + 6)) = true then _ else none) = none
      rw [if_neg z]
/-- if something does not lead anywhere, but all is right, then it is the list -/
theorem rsv_n {τ : am_S} {B : Nat → Int32} {A Z : Nat → Nat} {N e u g m : Nat} (hB : B = τ.2.1 2) (hm : m < 7) (hz : ¬ τ.2.1 20 (11 * e + m) = 0) (h : rsv B A Z N τ e u g m = none) (hA : cAll τ A Z N e u g) : m = 3 := by
  subst hB
  obtain ⟨a0, a1, a2, a3, a4, a5, a6, _⟩ := hA
  match m, hm with
  | 0, _ =>
    have h : oL (nmS (τ.2.1 2) A Z (τ.2.1 20 (11 * e + 0)) (τ.2.2 21 (11 * e + 0)) (bas τ g 8)) = none := h
    cases hn : nmS (τ.2.1 2) A Z (τ.2.1 20 (11 * e + 0)) (τ.2.2 21 (11 * e + 0)) (bas τ g 8) with
    | some p => rw [hn] at h; cases h
    | none => exact absurd hn (a0.resolve_left hz)
  | 1, _ => exact absurd h (a1.resolve_left hz)
  | 2, _ =>
    have h : (if cfB (τ.2.1 20 (11 * e + 2)) = true then some _ else adS _ _ _ _ _ _) = none := h
    rcases a2.resolve_left hz with c | c
    · rw [if_pos c] at h; cases h
    · by_cases cc : cfB (τ.2.1 20 (11 * e + 2)) = true
      · rw [if_pos cc] at h; cases h
      · rw [if_neg cc] at h; exact absurd h c
  | 3, _ => rfl
  | 4, _ =>
    have h : (if τ.2.1 20 (11 * e + 4) = 19 then oL (fp (orP τ u (τ.2.2 21 (11 * e + 4))) N 0) else none) = none := h
    obtain ⟨b1, b2⟩ := a4.resolve_left hz
    rw [if_pos b1] at h
    cases hf : fp (orP τ u (τ.2.2 21 (11 * e + 4))) N 0 with
    | some p => rw [hf] at h; cases h
    | none => exact absurd hf b2
  | 5, _ =>
    have h : (if cfB (τ.2.1 20 (11 * e + 5)) = true then some (τ.2.2 21 (11 * e + 5)) else none) = none := h
    rw [if_pos (a5.resolve_left hz)] at h
    cases h
  | 6, _ =>
    have h : (if cfB (τ.2.1 20 (11 * e + 6)) = true then some (τ.2.2 21 (11 * e + 6)) else none) = none := h
    rw [if_pos (a6.resolve_left hz)] at h
    cases h
/-- then the reference finds no ranges -/
theorem rr_0 {σ τ : am_S} {N U e u : Nat} {fs A Z : Nat → Nat} (h : EV σ τ N U fs A Z) (he : e < N) (hu : u < U) (h19 : τ.2.1 19 e = nI u) (hZ : FZ (τ.2.1 20 (11 * e + 3))) (hz : ¬ τ.2.1 20 (11 * e + 3) = 0) (h3 : c3 τ e) (hn : lsS (τ.2.1 2) A Z (τ.2.1 20 (11 * e + 3)) (τ.2.2 21 (11 * e + 3)) (bas τ (fs u) 10) = none) : g_Mo_readRanges (nI e) τ = some (0, τ) := by
  have hl := EV_l h
  have he2 : e < 200 := by omega
  unfold g_Mo_readRanges
  rw [show g_Mo_has (nI e) 3 τ = _ from ha_m (k := 3) he2 (by decide) hZ, bd_t, if_neg hz, if_neg i10, show g_Mo_valueAt (nI e) 3 τ = _ from va_m (k := 3) he2 (by decide), bd_t, show g_Mo_formAt (nI e) 3 τ = _ from fo_m (k := 3) he2 (by decide), bd_t]
  unfold lsS at hn
  rcases h3.resolve_left hz with c | c
  · rw [if_pos c] at hn; cases hn
  · rw [if_neg (by rw [c]; decide), if_pos c] at hn
    rw [if_pos c, show g_Mo_baseOf (nI e) 10 τ = _ from ba_m (k := 3) h he hu h19 (by decide), bd_t]
    obtain ⟨v, t, ei, ht, hv⟩ := ix_m (s := 6) (n := 4) (b := bas τ (fs u) 10) (i := τ.2.2 21 (11 * e + 3)) (EV_xm h) (by decide) (by decide)
    rw [show g_Mo_indexed 6 (bas τ (fs u) (7 + 3)) _ 4 τ = _ from ei, bd_t, hv, ht]
    cases hi : idx (A 6) (Z 6) 4 (bas τ (fs u) 10) (τ.2.2 21 (11 * e + 3)) with
    | some p => rw [hi] at hn; cases hn
    | none => rfl
