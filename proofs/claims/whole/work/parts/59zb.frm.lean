/-! frames, both sides -/
theorem nof_n {σ τ : am_S} {N U u : Nat} {fs A Z bnd wb : Nat → Nat} (h : OPN σ τ N U fs A Z bnd wb) (hu : u < U) (i : Int32) : g_Mo_file_121 i (nI u) (-1) τ = am_bd (g_Mo_character (-1) i τ) (fun w t => some (w, t)) := by
  obtain ⟨y, h1, h2, h3⟩ := nof_2 (v := -1) h hu
  unfold g_Ro_nameOfFile at h1
  rw [if_pos ((cmp_lt _ _).mpr (by decide))] at h1
  have : y = -1 := by
    have e : some ((-1 : Int32), σ) = some (y, σ) := h1
    exact (congrArg Prod.fst (Option.some.inj e)).symm
  rw [h3 i, this]
def FRA (B : Nat → Int32) (s : am_S) (j : Nat) (n f l : Int32) : Prop := s.2.1 60 j = n ∧ TE B n (s.2.1 61 j) ∧ s.2.1 62 j = f ∧ TE B f (s.2.1 63 j) ∧ s.2.1 64 j = l
def FRO (σ s : am_S) (j : Nat) : Prop := ∀ i, ¬ i = j → s.2.1 60 i = σ.2.1 60 i ∧ s.2.1 61 i = σ.2.1 61 i ∧ s.2.1 62 i = σ.2.1 62 i ∧ s.2.1 63 i = σ.2.1 63 i ∧ s.2.1 64 i = σ.2.1 64 i
theorem FRA_o {B : Nat → Int32} {σ s : am_S} {i j : Nat} {n f l : Int32} (h : FRA B σ i n f l) (o : FRO σ s j) (hn : ¬ i = j) : FRA B s i n f l := by
  obtain ⟨o1, o2, o3, o4, o5⟩ := o i hn
  unfold FRA
  rw [o1, o2, o3, o4, o5]
  exact h
def fW : List (Nat × Nat) := [(58, 11)]
def fA : List Nat := [60, 61, 62, 63, 64]
theorem add_c {σ : am_S} {j : Nat} {n f l : Int32} (hj : j < 16) (h11 : σ.1.1 58 11 = nI j) (hn : PL (σ.2.1 1) n) (hf : PL (σ.2.1 1) f) : R1 (g_Fr_add n f l σ) (fun _ s => FR fW fA σ s ∧ s.1.1 58 11 = nI (j + 1) ∧ FRA (σ.2.1 1) s j n f l ∧ FRO σ s j) := by
  unfold g_Fr_add
  rw [h11, inb_nI (by omega) (by decide), gd_t, nI_clamp (by omega)]
  obtain ⟨y1, e1, t1⟩ := txe_c (σ := am_ai σ 60 j n) (x := n) hn
  rw [e1, bd_t]
  have g1 : (am_ai σ 60 j n).1.1 58 11 = nI j := h11
  rw [g1, inb_nI (by omega) (by decide), gd_t, gd_t, nI_clamp (by omega)]
  obtain ⟨y2, e2, t2⟩ := txe_c (σ := am_ai (am_ai (am_ai σ 60 j n) 61 j y1) 62 j f) (x := f) hf
  rw [e2, bd_t]
  have g2 : (am_ai (am_ai (am_ai σ 60 j n) 61 j y1) 62 j f).1.1 58 11 = nI j := h11
  rw [g2, inb_nI (by omega) (by decide), gd_t, gd_t, nI_clamp (by omega), show nI j + 1 = nI (j + 1) from nI_add j 1]
  refine R1_p ⟨fr_fi (fr_ai (fr_ai (fr_ai (fr_ai (fr_ai fr_rf (by decide)) (by decide)) (by decide)) (by decide)) (by decide)) (by decide), ?_, ?_, ?_⟩
  · rw [fi_at]
  · unfold FRA
    show (am_ai (am_ai (am_ai (am_ai (am_ai σ 60 j n) 61 j y1) 62 j f) 63 j y2) 64 j l).2.1 60 j = n ∧ TE _ n ((am_ai (am_ai (am_ai (am_ai (am_ai σ 60 j n) 61 j y1) 62 j f) 63 j y2) 64 j l).2.1 61 j) ∧ (am_ai (am_ai (am_ai (am_ai (am_ai σ 60 j n) 61 j y1) 62 j f) 63 j y2) 64 j l).2.1 62 j = f ∧ TE _ f ((am_ai (am_ai (am_ai (am_ai (am_ai σ 60 j n) 61 j y1) 62 j f) 63 j y2) 64 j l).2.1 63 j) ∧ (am_ai (am_ai (am_ai (am_ai (am_ai σ 60 j n) 61 j y1) 62 j f) 63 j y2) 64 j l).2.1 64 j = l
    refine ⟨?_, ?_, ?_, ?_, ?_⟩
    · rw [ai_no (Or.inl (by decide)), ai_no (Or.inl (by decide)), ai_no (Or.inl (by decide)), ai_no (Or.inl (by decide)), ai_at]
    · rw [ai_no (Or.inl (by decide)), ai_no (Or.inl (by decide)), ai_no (Or.inl (by decide)), ai_at]
      exact t1
    · rw [ai_no (Or.inl (by decide)), ai_no (Or.inl (by decide)), ai_at]
    · rw [ai_no (Or.inl (by decide)), ai_at]
      exact t2
    · rw [ai_at]
  · intro i hi
    show (am_ai (am_ai (am_ai (am_ai (am_ai σ 60 j n) 61 j y1) 62 j f) 63 j y2) 64 j l).2.1 60 i = _ ∧ (am_ai (am_ai (am_ai (am_ai (am_ai σ 60 j n) 61 j y1) 62 j f) 63 j y2) 64 j l).2.1 61 i = _ ∧ (am_ai (am_ai (am_ai (am_ai (am_ai σ 60 j n) 61 j y1) 62 j f) 63 j y2) 64 j l).2.1 62 i = _ ∧ (am_ai (am_ai (am_ai (am_ai (am_ai σ 60 j n) 61 j y1) 62 j f) 63 j y2) 64 j l).2.1 63 i = _ ∧ (am_ai (am_ai (am_ai (am_ai (am_ai σ 60 j n) 61 j y1) 62 j f) 63 j y2) 64 j l).2.1 64 i = _
    refine ⟨?_, ?_, ?_, ?_, ?_⟩ <;> rw [ai_no (Or.inr hi), ai_no (Or.inr hi), ai_no (Or.inr hi), ai_no (Or.inr hi), ai_no (Or.inr hi)]
/-- what the reference tells of a frame -/
def MF (τ : am_S) (j : Nat) (n f l : Int32) : Prop := g_Mo_nameOf (nI j) (am_fi τ 0 1 0) = some (n, am_fi τ 0 1 0) ∧ (∀ i, g_Mo_file (nI j) i τ = am_bd (g_Mo_character f i (am_fi τ 0 1 0)) (fun w t => some (w, t))) ∧ g_Mo_line (nI j) τ = some (l, am_fi τ 0 1 0)
theorem isf_m {τ : am_S} {j k : Nat} (hk : k ≤ 16) (hj : j < k) (h : τ.1.1 0 56 = nI k) : g_Mo_isFrame (nI j) τ = some (1, τ) := by
  unfold g_Mo_isFrame g_Mo_isFrame_17
  rw [if_neg (nI_pos (by omega)), h, if_pos (nI_lt hj (by omega))]
  rfl
def CHX (σ τ : am_S) (N U u k : Nat) (c : Nat → Nat) : Prop := u < U ∧ 1 ≤ k ∧ k ≤ 16 ∧ τ.1.1 0 55 = nI k ∧ τ.1.1 0 56 = nI k ∧ (∀ m, m < k → τ.2.1 33 m = nI (c m)) ∧ CHN σ N u c k
theorem CHX_e {σ τ : am_S} {N U u k m : Nat} {c fs A Z bnd wb : Nat → Nat} (h : OPN σ τ N U fs A Z bnd wb) (hc : CHX σ τ N U u k c) (hm : m < k) : c m < N ∧ FT σ (c m) ∧ σ.2.1 13 (c m) = nI u ∧ τ.2.1 19 (c m) = nI u := by
  obtain ⟨q1, q2, q3, _⟩ := hc.2.2.2.2.2.2 m hm
  obtain ⟨u', hu', E⟩ := EV_en (OPN_ev h) (c m) q1
  exact ⟨q1, q2, q3, E.2.1.trans (E.1.symm.trans q3)⟩
theorem mf_n {σ τ : am_S} {N U u k j : Nat} {c fs A Z bnd wb : Nat → Nat} (h : OPN σ τ N U fs A Z bnd wb) (hc : CHX σ τ N U u k c) (hj : j < k) : ∃ n, PL (σ.2.1 1) n ∧ g_Fr_nameOf (nI (c (k - 1 - j))) σ = some (n, σ) ∧ g_Mo_nameOf (nI j) τ = some (n, τ) := by
  obtain ⟨e1, e2, e3, e4⟩ := CHX_e h hc (show k - 1 - j < k by omega)
  obtain ⟨hu, hk1, hk, h55, h56, h33, hC⟩ := hc
  obtain ⟨n, n1, n2, n3⟩ := nmo_l h 8 0 (by omega) _ e1 e2 4000 4000 (by omega) (by omega)
  refine ⟨n, n3, n1, ?_⟩
  unfold g_Mo_nameOf
  rw [h55, if_neg (nI_ne0 (by omega) (by omega)), show nI k - 1 = nI (k - 1) from nI_subZ (b := 1) (by omega), nI_subZ (by omega), inb_nI (by omega) (by decide), gd_t, nI_clamp (by omega), h33 _ (by omega)]
  exact n2
theorem mf_0 {σ τ : am_S} {N U u k : Nat} {c fs A Z bnd wb : Nat → Nat} {x : Int64} (h : OPN σ (am_fi τ 0 1 0) N U fs A Z bnd wb) (hx : τ.1.2 0 59 = x) (hc : CHX σ (am_fi τ 0 1 0) N U u k c) : ∃ n f l, MF τ 0 n f l ∧ PL (σ.2.1 1) n ∧ PL (σ.2.1 1) f ∧ g_Fr_addInnermost (nI (c (k - 1))) x σ = am_bd (g_Fr_add n f l σ) (fun _ s => some ((), s)) := by
  have hl := EV_l (OPN_ev h)
  obtain ⟨n, n1, n2, n3⟩ := mf_n h hc (j := 0) (by have := hc.2.1; omega)
  obtain ⟨e1, e2, e3, e4⟩ := CHX_e h hc (m := k - 1) (by have := hc.2.1; omega)
  obtain ⟨g1, g2, g3, g4⟩ := CHX_e h hc (m := 0) (by have := hc.2.1; omega)
  obtain ⟨hu, hk1, hk, h55, h56, h33, hC⟩ := hc
  have hx' : (am_fi τ 0 1 0).1.2 0 59 = x := hx
  obtain ⟨r, r1, r2, r3⟩ := rowq_2 h hx' hu
  have hr := OPN_rw h
  have hfile : ∀ i, g_Mo_file 0 i τ = am_bd (g_Mo_rowOf (nI u) (am_fi τ 0 1 0)) (fun v21 σ21 => g_Mo_file_60 0 i (nI u) v21 (-1) σ21) := by
    intro i
    unfold g_Mo_file
    rw [show g_Mo_isFrame 0 (am_fi τ 0 1 0) = _ from isf_m (j := 0) hk (by omega) h56, bd_t, if_neg i10, h55, if_neg (nI_ne0 (by omega) (by omega)), show inb 0 200 = true from rfl, gd_t, show (am_fi τ 0 1 0).2.1 33 (0 : Int32).toNatClampNeg = nI (c 0) from h33 0 (by omega), inb_nI (by omega) (by decide), gd_t, nI_clamp (by omega), g4]
    simp only [if_true]
  have hline : g_Mo_line 0 τ = am_bd (g_Mo_rowOf (nI u) (am_fi τ 0 1 0)) (fun v21 σ21 => if v21 = (-1) then g_Mo_line_59 (0) σ21 else am_gd (inb v21 400) <| g_Mo_line_59 (σ21.2.1 27 v21.toNatClampNeg) σ21) := by
    unfold g_Mo_line
    rw [show g_Mo_isFrame 0 (am_fi τ 0 1 0) = _ from isf_m (j := 0) hk (by omega) h56, bd_t, if_neg i10, h55, if_neg (nI_ne0 (by omega) (by omega)), if_pos rfl, show inb 0 200 = true from rfl, gd_t, show (am_fi τ 0 1 0).2.1 33 (0 : Int32).toNatClampNeg = nI (c 0) from h33 0 (by omega), inb_nI (by omega) (by decide), gd_t, nI_clamp (by omega), g4]
  unfold g_Fr_addInnermost g_Fr_addInnermost_81
  rw [inb_nI (by omega) (by decide), gd_t, nI_clamp (by omega), e3, r1, bd_t]
  rw [show k - 1 - 0 = k - 1 from rfl] at n2
  cases r with
  | none =>
    refine ⟨n, -1, 0, ⟨n3, fun i => ?_, ?_⟩, n1, Or.inl rfl, ?_⟩
    · rw [show g_Mo_file (nI 0) i τ = _ from hfile i, r2, bd_t]
      unfold g_Mo_file_60 g_Mo_file_87
      rw [if_pos rfl, show oN none = -1 from rfl, if_pos rfl, if_pos rfl]
      exact nof_n h hu i
    · rw [show g_Mo_line (nI 0) τ = _ from hline, r2, bd_t, show oN none = -1 from rfl, if_pos rfl]
      rfl
    · rw [show oN none = -1 from rfl, if_pos rfl, n2, bd_t]
  | some m =>
    have hm := r3 m rfl
    have hw := hr.1
    obtain ⟨w1, w2, w3, w4⟩ := hr.2.2.2 m hm
    obtain ⟨y, y1, y2, y3⟩ := nof_2 (v := (am_fi τ 0 1 0).2.2 31 m) h hu
    refine ⟨n, y, (am_fi τ 0 1 0).2.1 27 m, ⟨n3, fun i => ?_, ?_⟩, n1, y2, ?_⟩
    · rw [show g_Mo_file (nI 0) i τ = _ from hfile i, r2, bd_t]
      unfold g_Mo_file_60 g_Mo_file_87
      rw [if_pos rfl, oN_s, if_neg (nI_ne (by omega)), if_neg i10, if_pos rfl, inb_nI (by omega) (by decide), gd_t, nI_clamp (by omega)]
      exact y3 i
    · rw [show g_Mo_line (nI 0) τ = _ from hline, r2, bd_t, oN_s, if_neg (nI_ne (by omega)), inb_nI (by omega) (by decide), gd_t, nI_clamp (by omega)]
      rfl
    · rw [oN_s, if_neg (nI_ne (by omega)), n2, bd_t, inb_nI (by omega) (by decide), gd_t, nI_clamp (by omega), w2, y1, bd_t, gd_t, w3]
theorem mf_s {σ τ : am_S} {N U u k j : Nat} {c fs A Z bnd wb : Nat → Nat} {x : Int64} (h : OPN σ (am_fi τ 0 1 0) N U fs A Z bnd wb) (hx : τ.1.2 0 59 = x) (hc : CHX σ (am_fi τ 0 1 0) N U u k c) (hj1 : 1 ≤ j) (hj : j < k) : ∃ n f l, MF τ j n f l ∧ PL (σ.2.1 1) n ∧ PL (σ.2.1 1) f ∧ g_Fr_addAround (nI (c (k - 1 - j))) (nI (c (k - j))) σ = am_bd (g_Fr_add n f l σ) (fun _ s => some ((), s)) := by
  have hl := EV_l (OPN_ev h)
  obtain ⟨n, n1, n2, n3⟩ := mf_n h hc hj
  obtain ⟨e1, e2, e3, e4⟩ := CHX_e h hc (m := k - 1 - j) (by omega)
  obtain ⟨d1, d2, d3, d4⟩ := CHX_e h hc (m := k - j) (by omega)
  obtain ⟨g1, g2, g3, g4⟩ := CHX_e h hc (m := 0) (by omega)
  obtain ⟨hu, hk1, hk, h55, h56, h33, hC⟩ := hc
  have hx' : (am_fi τ 0 1 0).1.2 0 59 = x := hx
  obtain ⟨r, r1, r2, r3⟩ := rowq_2 h hx' hu
  have hL := FT_L d2
  obtain ⟨u', hu', E⟩ := EV_en (OPN_ev h) (c (k - j)) d1
  have hF := E.2.2.2.2.2.1.1 hL
  have hD := OPN_dn h (c (k - j)) d1 u' hu' E.2.1 hL
  have raw : ∀ m, 5 ≤ m → m < 7 → ¬ (am_fi τ 0 1 0).2.1 20 (11 * c (k - j) + m) = 0 → σ.2.2 16 (7 * c (k - j) + m) = (am_fi τ 0 1 0).2.2 21 (11 * c (k - j) + m) := by
    intro m h5 h7 hz
    have := hD m h7 hz
    unfold rsv rsp at this
    rw [if_neg (by omega), if_neg (by omega), if_neg (by omega), if_neg (by omega), if_neg (by omega)] at this
    split at this
    · exact (Option.some.inj this).symm
    · cases this
  have hj0 : ¬ nI j = 0 := nI_ne0 (by omega) (by omega)
  have hfile : ∀ i, g_Mo_file (nI j) i τ = am_bd (g_Mo_has (nI (c (k - j))) 5 (am_fi τ 0 1 0)) (fun v7 σ7 => g_Mo_file_87 (nI j) i (nI u) (oN r) (nI (c (k - j))) v7 σ7) := by
    intro i
    unfold g_Mo_file
    rw [isf_m hk hj h56, bd_t, if_neg i10, h55, if_neg (nI_ne0 (by omega) (by omega)), show inb 0 200 = true from rfl, gd_t, show (am_fi τ 0 1 0).2.1 33 (0 : Int32).toNatClampNeg = nI (c 0) from h33 0 (by omega), inb_nI (by omega) (by decide), gd_t, nI_clamp (by omega), g4, r2, bd_t, if_neg hj0, h55, nI_subZ (by omega), inb_nI (by omega) (by decide), gd_t, nI_clamp (by omega), h33 _ (by omega)]
    unfold g_Mo_file_60
    rw [if_neg hj0]
  have hline : g_Mo_line (nI j) τ = am_bd (g_Mo_has (nI (c (k - j))) 6 (am_fi τ 0 1 0)) (fun v24 σ24 => if v24 = 0 then g_Mo_line_94 (0) σ24 else am_bd (g_Mo_valueAt (nI (c (k - j))) (6) σ24) fun v29 σ29 => g_Mo_line_94 v29.toInt32 σ29) := by
    unfold g_Mo_line
    rw [isf_m hk hj h56, bd_t, if_neg i10, h55, if_neg (nI_ne0 (by omega) (by omega)), if_neg hj0, nI_subZ (by omega), inb_nI (by omega) (by decide), gd_t, nI_clamp (by omega), h33 _ (by omega)]
  -- the line
  have hlin : ∃ l, g_Mo_line (nI j) τ = some (l, am_fi τ 0 1 0) ∧ ∀ f, g_Fr_addAround_43 (nI (c (k - 1 - j))) (nI (c (k - j))) f σ = am_bd (g_Fr_add n f l σ) (fun _ s => some ((), s)) := by
    rw [hline, show g_Mo_has (nI (c (k - j))) 6 (am_fi τ 0 1 0) = _ from ha_m (k := 6) (by omega) (by decide) (hF 6 (by decide)).2.1, bd_t]
    unfold g_Fr_addAround_43 g_Fr_addAround_81
    rw [n2]
    by_cases c6 : (am_fi τ 0 1 0).2.1 20 (11 * c (k - j) + 6) = 0
    · rw [if_pos c6, if_pos rfl]
      refine ⟨0, rfl, fun f => ?_⟩
      rw [bd_t, show g_En_has (nI (c (k - j))) 6 σ = _ from ha_c (k := 6) (by omega) (by decide), bd_t, (hF 6 (by decide)).1, if_pos c6, if_pos rfl]
    · rw [if_neg c6, if_neg i10, show g_Mo_valueAt (nI (c (k - j))) 6 (am_fi τ 0 1 0) = _ from va_m (k := 6) (by omega) (by decide), bd_t]
      refine ⟨_, rfl, fun f => ?_⟩
      rw [bd_t, show g_En_has (nI (c (k - j))) 6 σ = _ from ha_c (k := 6) (by omega) (by decide), bd_t, (hF 6 (by decide)).1, if_neg c6, if_neg i10, show g_En_valueOf (nI (c (k - j))) 6 σ = _ from vo_c (k := 6) (by omega) (by decide), bd_t, raw 6 (by decide) (by decide) c6]
  obtain ⟨l, l1, l2⟩ := hlin
  unfold g_Fr_addAround
  rw [show g_En_has (nI (c (k - j))) 5 σ = _ from ha_c (k := 5) (by omega) (by decide), bd_t, (hF 5 (by decide)).1]
  by_cases c5 : (am_fi τ 0 1 0).2.1 20 (11 * c (k - j) + 5) = 0
  · rw [if_pos c5, if_pos rfl]
    refine ⟨n, -1, l, ⟨n3, fun i => ?_, l1⟩, n1, Or.inl rfl, l2 (-1)⟩
    rw [hfile i, show g_Mo_has (nI (c (k - j))) 5 (am_fi τ 0 1 0) = _ from ha_m (k := 5) (by omega) (by decide) (hF 5 (by decide)).2.1, bd_t, if_pos c5]
    unfold g_Mo_file_87
    rw [if_pos rfl]
    exact nof_n h hu i
  · rw [if_neg c5, if_neg i10, inb_nI (by omega) (by decide), gd_t, nI_clamp (by omega), show g_En_valueOf (nI (c (k - j))) 5 σ = _ from vo_c (k := 5) (by omega) (by decide), bd_t, raw 5 (by decide) (by decide) c5, e3]
    obtain ⟨y, y1, y2, y3⟩ := nof_2 (v := (am_fi τ 0 1 0).2.2 21 (11 * c (k - j) + 5)) h hu
    rw [y1, bd_t]
    refine ⟨n, y, l, ⟨n3, fun i => ?_, l1⟩, n1, y2, l2 y⟩
    rw [hfile i, show g_Mo_has (nI (c (k - j))) 5 (am_fi τ 0 1 0) = _ from ha_m (k := 5) (by omega) (by decide) (hF 5 (by decide)).2.1, bd_t, if_neg c5]
    unfold g_Mo_file_87
    rw [if_neg i10, if_neg hj0, show g_Mo_valueAt (nI (c (k - j))) 5 (am_fi τ 0 1 0) = _ from va_m (k := 5) (by omega) (by decide), bd_t]
    exact y3 i
