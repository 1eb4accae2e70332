/-! the loop over a unit's entries -/
theorem LPZ_fr {σ τ s t : am_S} {p p' q N U d na : Nat} {fs : Nat → Nat} (h : LPZ σ τ p q N U fs d na) (f : FR [(30, 1), (30, 3)] [] σ s) (g : FR [(0, 6), (0, 8)] [] τ t) (G : RG 30 s t p' q) : LPZ s t p' q N U fs d na := by
  have KC : ∀ M L V, KEL (CL M L V) σ s := fun M L V => KEL_fr f (by simp)
  have KM : ∀ M V, KEL (ML M V) τ t := fun M V => KEL_fr g (by simp)
  refine ⟨G, (fr_i f (by decide)).trans (LPZ_n h), (fr_i g (by decide)).trans (LPZ_m h), LPZ_l h, (fr_i f (by decide)).trans (LPZ_u h), (fr_i g (by decide)).trans (LPZ_v h), LPZ_u1 h, LPZ_u4 h, (fr_i f (by decide)).trans (LPZ_d h), (fr_i g (by decide)).trans (LPZ_e h), LPZ_d16 h, ?_, fun e he => ?_, fun u hu => UN1_up (L := 0) (LPZ_un h u hu) hu (KC N 0 U) (KM N U), LPZ_fl h, (fr_i f (by decide)).trans (LPZ_a h), (fr_i g (by decide)).trans (LPZ_b h), LPZ_na h, fun x hx => AB1_fr (LPZ_ab h x hx) f g (by decide), fun z => ?_⟩
  · rw [fr_i f (by decide)]
    exact STK_up (σ := σ) (τ := τ) (Nat.le_refl _) (fun _ _ => by rw [fr_b f (by decide)]) (fun _ _ => by rw [fr_b f (by decide)]) d _ (fun _ _ => by rw [fr_b g (by decide)]) (LPZ_s h)
  · obtain ⟨u, hu, E⟩ := LPZ_en h e he
    exact ⟨u, hu, EN1_up E he (Nat.le_refl (4 * u + 4)) hu (KC N _ U) (KM N U) (fr_b f (by decide))⟩
  · rw [fr_b f (by decide), fr_c f (by decide)]
    exact LPZ_z h z
theorem rx0 {n : Nat} {x1 : Int32} {τ : am_S} : g_Mo_readEntries_12 (n + 1) x1 0 τ = some (0, τ) := by
  unfold g_Mo_readEntries_12 g_Mo_readEntries_270 g_Mo_readEntries_300 g_Mo_readEntries_301
  rw [if_pos rfl, if_pos rfl]
  rfl
def EP (q U : Nat) (fs : Nat → Nat) (na : Nat) (x : Int32) (s : am_S) (y : Int32) (t : am_S) : Prop := (x = 0 ∧ y = 0) ∨ (x = 1 ∧ y = 1 ∧ ∃ N, fs (U - 1) < N ∧ LPZ s t q q N U fs 0 na)
theorem el_z {σ τ : am_S} {q N U d na i n n' : Nat} {fs : Nat → Nat} (h : LPZ σ τ q q N U fs d na) : R2 (g_Ur_readEntries_20 (n + 1) (nI (fs (U - 1))) (nI i) σ) (g_Mo_readEntries_12 (n' + 1) (nI (fs (U - 1))) 1 τ) (EP q U fs na) := by
  have hq := RG_q (LPZ_g h)
  have hl := LPZ_l h
  have hu1 := LPZ_u1 h
  have hd16 := LPZ_d16 h
  have hfs := (LPZ_un h (U - 1) (by omega)).1
  have e1 : g_Ur_readEntries_20 (n + 1) (nI (fs (U - 1))) (nI i) σ = g_Ur_readEntries_125 (nI (fs (U - 1))) σ := by
    rw [g_Ur_readEntries_20, if_neg (show ¬ σ.1.1 30 1 < σ.1.1 30 2 by rw [(LPZ_g h).1.1, (LPZ_g h).1.2.1]; exact nI_nlt (Nat.le_refl _) (by omega))]
    simp only [ite_self]
  rw [e1]
  unfold g_Ur_readEntries_125 g_Ur_readEntries_147 g_Ur_readEntries_148 g_Mo_readEntries_12 g_Mo_readEntries_270 g_Mo_readEntries_300 g_Mo_readEntries_301
  rw [if_neg i10, if_neg (show ¬ τ.1.1 0 6 < τ.1.1 0 7 by rw [(LPZ_g h).2.1.1, (LPZ_g h).2.1.2.1]; exact nI_nlt (Nat.le_refl _) (by omega)), if_neg i10, if_pos (RG_8 (LPZ_g h)), LPZ_d h, LPZ_e h, LPZ_n h, LPZ_m h]
  by_cases cd : d = 0
  · rw [if_pos (show nI d = 0 from cd ▸ rfl), if_pos (show nI d = 0 from cd ▸ rfl)]
    by_cases cN : fs (U - 1) < N
    · rw [if_pos (nI_lt cN (by omega)), if_pos (nI_lt cN (by omega))]
      exact R2_p (Or.inr ⟨rfl, rfl, N, cN, cd ▸ h⟩)
    · rw [if_neg (nI_nlt (by omega) (by omega)), if_neg (nI_nlt (by omega) (by omega))]
      exact R2_p (Or.inl ⟨rfl, rfl⟩)
  · have z : ¬ nI d = 0 := nI_ne0 (by omega) (by omega)
    rw [if_neg z, if_neg z]
    by_cases cN : nI (fs (U - 1)) < nI N
    · rw [if_pos cN]
      exact R2_p (Or.inl ⟨rfl, rfl⟩)
    · rw [if_neg cN]
      exact R2_p (Or.inl ⟨rfl, rfl⟩)
theorem el_l {q U na : Nat} {fs : Nat → Nat} : ∀ r p, q - p ≤ r → ∀ (σ τ : am_S) (N d i : Nat), LPZ σ τ p q N U fs d na → i ≤ p → ∀ n n', r < n → r + 1 < n' → R2 (g_Ur_readEntries_20 n (nI (fs (U - 1))) (nI i) σ) (g_Mo_readEntries_12 n' (nI (fs (U - 1))) 1 τ) (EP q U fs na) := by
  intro r
  induction r with
  | zero =>
    intro p hp σ τ N d i h hi n n' hn hn'
    obtain ⟨n, rfl⟩ : ∃ z, n = z + 1 := ⟨n - 1, by omega⟩
    obtain ⟨n', rfl⟩ : ∃ z, n' = z + 1 := ⟨n' - 1, by omega⟩
    have hq := RG_q (LPZ_g h)
    obtain rfl : p = q := by omega
    exact el_z h
  | succ r ih =>
    intro p hp σ τ N d i h hi n n' hn hn'
    obtain ⟨n, rfl⟩ : ∃ z, n = z + 1 := ⟨n - 1, by omega⟩
    obtain ⟨n', rfl⟩ : ∃ z, n' = z + 2 := ⟨n' - 2, by omega⟩
    have hq := RG_q (LPZ_g h)
    by_cases cp : p = q
    · subst cp
      exact el_z h
    · have hG := LPZ_g h
      rw [g_Ur_readEntries_20, g_Mo_readEntries_12, if_pos (show nI i < 3000 from nI_lt (b := 3000) (by omega) (by omega)), if_neg i10, hG.1.1, hG.1.2.1, hG.2.1.1, hG.2.1.2.1, if_pos (nI_lt (by omega) (by omega)), if_pos (nI_lt (by omega) (by omega))]
      refine R2_b (xul hG) (fun v s w t _ _ k => ?_)
      obtain ⟨f1, g1, k⟩ := k
      rcases k with ⟨p1, hp1, hp1q, G1, rfl⟩ | ⟨b, _⟩
      · have H := LPZ_fr h f1 g1 G1
        have hl := LPZ_l H
        have hu1 := LPZ_u1 H
        have hu4 := LPZ_u4 H
        have hd16 := LPZ_d16 H
        have hna := LPZ_na H
        have hfs := (LPZ_un H (U - 1) (by omega)).1
        rw [if_pos (RG_3 G1), if_pos (RG_8 G1)]
        unfold g_Ur_readEntries_110 g_Ur_readEntries_107 g_Ur_readEntries_110 g_Mo_readEntries_53 g_Mo_readEntries_63
        by_cases c0 : lg_cmp v 0 = 0
        · rw [if_pos c0, if_pos c0, if_pos (RG_8 G1), if_pos c0]
          unfold g_Ur_endChildren g_Mo_readEntries_91 g_Mo_readEntries_267
          rw [LPZ_d H, LPZ_e H]
          by_cases cd : d = 0
          · subst cd
            rw [if_pos (show nI 0 = 0 from rfl), bd_t, if_pos rfl, if_neg (by decide), rx0]
            exact R2_p (Or.inl ⟨rfl, rfl⟩)
          · obtain ⟨d, rfl⟩ : ∃ z, d = z + 1 := ⟨d - 1, by omega⟩
            obtain ⟨a, ha, e1, e2, e3, e4, e5⟩ := LPZ_s H
            rw [if_neg (nI_ne0 (by omega) (by omega)), e1, inb_nI (by omega) (by decide), gd_t, bd_t, if_neg i10, if_pos (show 0 < nI (d + 1) from nI_lt (a := 0) (by omega) (by omega)), show nI (d + 1) - 1 = nI d from nI_pred d, nI_clamp (by omega), show nI i + 1 = nI (i + 1) from nI_add i 1]
            have fC : FR [(21, 5), (21, 6)] [] s (am_fi (am_fi s 21 6 (nI d)) 21 5 ((am_fi s 21 6 (nI d)).2.1 12 a)) := fr_fi (fr_fi fr_rf (by simp)) (by simp)
            have fM : FR [(0, 23)] [] t (am_fi t 0 23 (nI d)) := fr_fi fr_rf (by simp)
            refine ih p1 (by omega) _ _ N d (i + 1) ?_ (by omega) n (n' + 1) (by omega) (by omega)
            refine ⟨RG_fr G1 fC fM (by decide), (fr_i fC (by decide)).trans (LPZ_n H), (fr_i fM (by decide)).trans (LPZ_m H), hl, (fr_i fC (by decide)).trans (LPZ_u H), (fr_i fM (by decide)).trans (LPZ_v H), hu1, hu4, ?_, fi_at, by omega, ?_, fun e he => ?_, fun u hu => UN1_up (L := 0) (LPZ_un H u hu) hu (KEL_fr fC (by simp)) (KEL_fr fM (by simp)), LPZ_fl H, (fr_i fC (by decide)).trans (LPZ_a H), (fr_i fM (by decide)).trans (LPZ_b H), hna, fun x hx => AB1_fr (LPZ_ab H x hx) fC fM (by decide), fun z => ?_⟩
            · rw [fi_no (Or.inl (by decide)), fi_at]
            · rw [fi_at]
              exact STK_up (σ := s) (τ := t) (s := am_fi (am_fi s 21 6 (nI d)) 21 5 ((am_fi s 21 6 (nI d)).2.1 12 a)) (t := am_fi t 0 23 (nI d)) (Nat.le_refl _) (fun _ _ => rfl) (fun _ _ => rfl) d _ (fun _ _ => rfl) e5
            · obtain ⟨u, hu, E⟩ := LPZ_en H e he
              exact ⟨u, hu, EN1_up E he (Nat.le_refl (4 * u + 4)) hu (V := U) (KEL_fr fC (by simp)) (KEL_fr fM (by simp)) rfl⟩
            · exact absurd (LPZ_z H z).1 (by omega)
        · rw [if_neg c0, if_neg c0, LPZ_n H]
          unfold g_Ur_readEntry g_Ur_readEntry_53 g_Ur_readEntry_29 g_Ur_readEntry_74
          have rest : ∀ fl : Int32, (fl = if N = fs (U - 1) then 1 else 0) → R2 (am_bd (am_bd (g_Ab_withNumber v s) fun v4 σ4 => if v4 = -1 then some (0, σ4) else if (σ4.1.1 10 10) = 200 then some (0, σ4) else am_gd (inb v4 40) (if (lg_cmp (σ4.2.2 24 v4.toNatClampNeg) 17) = 0 then (if 1 = fl then if fl = 0 then if (σ4.1.1 21 6) = 0 then some (0, σ4) else g_Ur_readEntry_76 (nI p) v4 σ4 else g_Ur_readEntry_76 (nI p) v4 σ4 else some (0, σ4)) else (if 0 = fl then if fl = 0 then if (σ4.1.1 21 6) = 0 then some (0, σ4) else g_Ur_readEntry_76 (nI p) v4 σ4 else g_Ur_readEntry_76 (nI p) v4 σ4 else some (0, σ4)))) fun v1 σ1 => if v1 = 0 then some (0, σ1) else g_Ur_readEntries_20 n (nI (fs (U - 1))) (nI i + 1) σ1) (am_bd (g_Mo_abbreviation v t) fun v24 σ24 => if σ24.1.1 0 8 = 0 then if lg_cmp v 0 = 0 then (if 0 < σ24.1.1 0 23 then g_Mo_readEntries_91 (g_Mo_readEntries_12 (n' + 1)) (nI (fs (U - 1))) 1 σ24 else g_Mo_readEntries_91 (g_Mo_readEntries_12 (n' + 1)) (nI (fs (U - 1))) 0 σ24) else g_Mo_readEntries_105 (g_Mo_readEntries_12 (n' + 1)) (nI (fs (U - 1))) (nI p) v24 σ24 else g_Mo_readEntries_105 (g_Mo_readEntries_12 (n' + 1)) (nI (fs (U - 1))) (nI p) v24 σ24) (EP q U fs na) := by
            intro fl hfl
            obtain ⟨v4, s4, w4, t4, e4, e4', P4⟩ := wn (x := v) hna (LPZ_a H) (LPZ_b H) (fun a ha => (LPZ_ab H a ha).1)
            obtain ⟨rfl, rfl, rfl, P4⟩ := P4
            rw [e4, e4', bd_t, bd_t, if_pos (RG_8 G1), if_neg c0]
            have eF : (nI N = nI (fs (U - 1))) ↔ N = fs (U - 1) := nI_eq (by omega) (by omega)
            have e105 : ∀ y : Int32, g_Mo_readEntries_105 (g_Mo_readEntries_12 (n' + 1)) (nI (fs (U - 1))) (nI p) y t4 = g_Mo_readEntries_118 (g_Mo_readEntries_12 (n' + 1)) (nI (fs (U - 1))) (nI p) y fl t4 := fun y => by
              unfold g_Mo_readEntries_105
              rw [LPZ_m H]
              by_cases cF : N = fs (U - 1)
              · rw [if_pos (eF.mpr cF), hfl, if_pos cF]
              · rw [if_neg (fun z => cF (eF.mp z)), hfl, if_neg cF]
            rw [e105]
            unfold g_Mo_readEntries_118
            rw [LPZ_m H, LPZ_n H, LPZ_d H, LPZ_e H]
            have no : ∀ (S : Option (Int32 × am_S)) , (∃ s', S = some (0, s')) → R2 (am_bd S fun v1 σ1 => if v1 = 0 then some (0, σ1) else g_Ur_readEntries_20 n (nI (fs (U - 1))) (nI i + 1) σ1) (g_Mo_readEntries_183 (g_Mo_readEntries_12 (n' + 1)) (nI (fs (U - 1))) (nI p) v4 t4) (EP q U fs na) := by
              intro S hS
              obtain ⟨s', rfl⟩ := hS
              unfold g_Mo_readEntries_183 g_Mo_readEntries_184 g_Mo_readEntries_228 g_Mo_readEntries_267
              rw [bd_t, if_pos rfl, if_pos rfl, if_pos rfl, rx0]
              exact R2_p (Or.inl ⟨rfl, rfl⟩)
            rcases P4 with rfl | ⟨a, ha, rfl⟩
            · rw [if_pos rfl, if_pos rfl]
              exact no _ ⟨_, rfl⟩
            · rw [if_neg (nI_ne (by omega)), if_neg (nI_ne (n := a) (by omega)), inb_nI (show a < 40 by omega) (by decide), gd_t, nI_clamp (n := a) (by omega)]
              by_cases c200 : N = 200
              · rw [if_pos (show nI N = 200 from c200 ▸ rfl), if_neg (show ¬ nI N < 200 from nI_nlt (b := 200) (by omega) (by omega))]
                exact no _ ⟨_, rfl⟩
              · rw [if_neg (show ¬ nI N = 200 from fun z => c200 ((nI_eq (b := 200) (by omega) (by omega)).mp z)), if_pos (show nI N < 200 from nI_lt (b := 200) (by omega) (by omega)), gd_t, gd_t]
                have yes : ((N = fs (U - 1) ∧ s4.2.2 24 a = 17) ∨ (¬ N = fs (U - 1) ∧ ¬ s4.2.2 24 a = 17 ∧ 0 < d)) → R2 (am_bd (g_Ur_readEntry_76 (nI p) (nI a) s4) fun v1 σ1 => if v1 = 0 then some (0, σ1) else g_Ur_readEntries_20 n (nI (fs (U - 1))) (nI i + 1) σ1) (g_Mo_readEntries_179 (g_Mo_readEntries_12 (n' + 1)) (nI (fs (U - 1))) (nI p) (nI a) t4) (EP q U fs na) := by
                  intro hc
                  unfold g_Mo_readEntries_179 g_Mo_readEntries_184 g_Mo_readEntries_222 g_Mo_readEntries_226 g_Mo_readEntries_227 g_Mo_readEntries_228 g_Mo_readEntries_267
                  rw [if_neg i10]
                  refine R2_b (en_e H ha (by omega) hc (by omega)) (fun x s5 _ t5 _ _ k5 => ?_)
                  rw [show nI i + 1 = nI (i + 1) from nI_add i 1]
                  rcases k5 with ⟨b5, rfl⟩ | ⟨p', hp', k5⟩
                  · rw [if_pos rfl, if_neg b5.2, if_pos rfl, rx0]
                    exact R2_p (Or.inl ⟨rfl, rfl⟩)
                  · rw [inb_nI (show a < 40 by omega) (by decide), gd_t, gd_t, gd_t, nI_clamp (n := a) (by omega)]
                    rcases k5 with ⟨ch, rfl, H5⟩ | ⟨ch, h23, h22, h8, k5⟩
                    · rw [if_neg i10, if_pos (RG_8 (LPZ_g H5)), if_pos ch, if_neg i10, if_pos ch]
                      exact ih p' (by omega) _ _ (N + 1) d (i + 1) H5 (by omega) n (n' + 1) (by omega) (by omega)
                    · rw [if_pos h8, if_neg ch, h23, h22]
                      rcases k5 with ⟨c16, rfl⟩ | ⟨c16, rfl, H5⟩
                      · rw [if_pos rfl, if_neg (show ¬ nI d < 16 from nI_nlt (b := 16) (by omega) (by omega)), if_pos rfl, rx0]
                        exact R2_p (Or.inl ⟨rfl, rfl⟩)
                      · rw [if_neg i10, if_pos (show nI d < 16 from nI_lt (b := 16) (by omega) (by omega)), if_neg i10, if_neg ch, inb_nI (by omega) (by decide), gd_t, nI_clamp (by omega), show nI (N + 1) - 1 = nI N from nI_pred N, show nI d + 1 = nI (d + 1) from nI_add d 1]
                        exact ih p' (by omega) _ _ (N + 1) (d + 1) (i + 1) H5 (by omega) n (n' + 1) (by omega) (by omega)
                have A2 : t4.2.2 7 a = s4.2.2 24 a := (LPZ_ab H a ha).2.1.symm
                rw [A2]
                by_cases c17 : s4.2.2 24 a = 17
                · have z17 : lg_cmp (s4.2.2 24 a) 17 = 0 := (cmp_eq _ _).mpr c17
                  rw [if_pos z17, if_pos z17, if_pos z17]
                  by_cases cF : N = fs (U - 1)
                  · rw [if_pos cF] at hfl
                    subst hfl
                    rw [if_pos rfl, if_neg i10, if_neg i10]
                    exact yes (Or.inl ⟨cF, c17⟩)
                  · rw [if_neg cF] at hfl
                    subst hfl
                    rw [if_neg i10, if_pos rfl]
                    simp only [ite_self]
                    exact no _ ⟨_, rfl⟩
                · have z17 : ¬ lg_cmp (s4.2.2 24 a) 17 = 0 := fun z => c17 ((cmp_eq _ _).mp z)
                  rw [if_neg z17, if_neg z17, if_neg z17]
                  by_cases cF : N = fs (U - 1)
                  · rw [if_pos cF] at hfl
                    subst hfl
                    rw [if_neg (show ¬ (0 : Int32) = 1 by decide), if_neg i10]
                    exact no _ ⟨_, rfl⟩
                  · rw [if_neg cF] at hfl
                    subst hfl
                    by_cases cd : d = 0
                    · rw [if_pos (show (0 : Int32) = 0 from rfl), if_pos (show (0 : Int32) = 0 from rfl), if_pos (show (0 : Int32) = 0 from rfl), if_pos (show nI d = 0 from cd ▸ rfl), if_neg (show ¬ 0 < nI d by rw [cd]; decide)]
                      exact no _ ⟨_, rfl⟩
                    · rw [if_pos (show (0 : Int32) = 0 from rfl), if_pos (show (0 : Int32) = 0 from rfl), if_pos (show (0 : Int32) = 0 from rfl), if_neg (nI_ne0 (n := d) (by omega) (by omega)), if_pos (show 0 < nI d from nI_lt (a := 0) (by omega) (by omega))]
                      exact yes (Or.inr ⟨cF, c17, by omega⟩)
          by_cases cF : N = fs (U - 1)
          · rw [if_pos (show nI N = nI (fs (U - 1)) by rw [← cF])]
            exact rest 1 (by rw [if_pos cF])
          · rw [if_neg (fun z => cF ((nI_eq (by omega) (by omega)).mp z))]
            exact rest 0 (by rw [if_neg cF])
      · rw [if_neg b.1, if_neg b.2]
        unfold g_Mo_readEntries_53 g_Mo_readEntries_63 g_Mo_readEntries_105 g_Mo_readEntries_118 g_Mo_readEntries_183 g_Mo_readEntries_184 g_Mo_readEntries_228 g_Mo_readEntries_267
        rw [if_neg b.2]
        simp only [ite_self, if_true, rx0]
        exact R2_p (Or.inl ⟨rfl, rfl⟩)
