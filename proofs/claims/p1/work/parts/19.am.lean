/-! checks by program: a class's links and a method's code, over a list of words and the places of the words in it -/
def am_in (tl : List Cond) (h : Nat) (w : Cond) : Bool := decide (tl[h]? = some w)
theorem am_in_g {tl : List Cond} {h : Nat} {w : Cond} (h1 : am_in tl h w = true) (h2 : goodWord w = true) : w ∈ tl.filter goodWord := List.mem_filter.mpr ⟨List.mem_of_getElem? (of_decide_eq_true h1), h2⟩
theorem am_in_n {tl : List Cond} {h : Nat} {w : Cond} (h1 : am_in tl h w = true) (h2 : am_nest w = true) : w ∈ tl.filter am_nest := List.mem_filter.mpr ⟨List.mem_of_getElem? (of_decide_eq_true h1), h2⟩
def am_kB (R : String) (tl : List Cond) : List (Nat × Value) → List Nat → Bool
  | [], _ => true
  | (n, .int v) :: r, h :: hs => am_in tl h (.constant R n v) && am_kB R tl r hs
  | (n, .long v) :: r, h :: hs => am_in tl h (.constantLong R n v) && am_kB R tl r hs
  | _, _ => false
def am_k1 (R : String) (tw : List Cond) (q : Nat × Value) : Prop := match q.2 with
  | .int v => Cond.constant R q.1 v ∈ tw
  | .long v => Cond.constantLong R q.1 v ∈ tw
  | _ => False
theorem am_kB_all {R : String} {tl : List Cond} : ∀ (l : List (Nat × Value)) (hs : List Nat), am_kB R tl l hs = true → ∀ q ∈ l, am_k1 R (tl.filter goodWord) q := by
  intro l
  induction l with
  | nil => intro hs _ q hq; cases hq
  | cons a r ih =>
    intro hs hb q hq
    obtain ⟨n, v⟩ := a
    cases hs with
    | nil => cases v <;> cases hb
    | cons h hs =>
      cases v with
      | int v =>
        simp only [am_kB, Bool.and_eq_true] at hb
        rcases List.mem_cons.mp hq with e | hq
        · subst e
          exact am_in_g hb.1 rfl
        · exact ih hs hb.2 q hq
      | long v =>
        simp only [am_kB, Bool.and_eq_true] at hb
        rcases List.mem_cons.mp hq with e | hq
        · subst e
          exact am_in_g hb.1 rfl
        · exact ih hs hb.2 q hq
      | _ => cases hb
theorem am_kB_ok {Y : am_Y} {tl : List Cond} {hs : List Nat} (h : am_kB Y.1 tl Y.2.1 hs = true) : am_kok Y (tl.filter goodWord) := am_kB_all _ hs h
def am_kdB (kind : Nat) (d : String) : Bool := match kind with
  | 0 => decide (d = "I")
  | 1 => decide (d = "J")
  | 2 => true
  | 3 => decide (d = "Z")
  | _ => false
theorem am_kdB_ok {kind : Nat} {d : String} (h : am_kdB kind d = true) : am_kd kind d := by
  match kind, h with
  | 0, h => exact (of_decide_eq_true (p := d = "I") h : d = "I")
  | 1, h => exact (of_decide_eq_true (p := d = "J") h : d = "J")
  | 2, _ => exact trivial
  | 3, h => exact (of_decide_eq_true (p := d = "Z") h : d = "Z")
  | n + 4, h => cases h
def am_f1 (R : String) (cl : List vw_C) (tl : List Cond) (host : String) (q : Nat × Nat × Nat × Nat × Bool) (h : Nat) : Bool := match cl[q.2.1]? with
  | none => false
  | some r => decide (q.2.2.1 < r.2.2) && decide ((r.2.1 q.2.2.1).1 = r.1) && (decide (q.2.2.2.1 = 2) || decide ((r.2.1 q.2.2.1).2.2.2 = false)) && am_kdB q.2.2.2.1 (r.2.1 q.2.2.1).2.2.1 &&
    (match q.2.2.2.2 with
      | true => am_in tl h (.fieldLinkNest R q.1 r.1 (r.2.1 q.2.2.1).2.1 (r.2.1 q.2.2.1).2.2.1 host)
      | false => am_in tl h (.fieldLink R q.1 r.1 (r.2.1 q.2.2.1).2.1 (r.2.1 q.2.2.1).2.2.1))
def am_fB (R : String) (cl : List vw_C) (tl : List Cond) (host : String) : List (Nat × Nat × Nat × Nat × Bool) → List Nat → Bool
  | [], _ => true
  | q :: r, h :: hs => am_f1 R cl tl host q h && am_fB R cl tl host r hs
  | _ :: _, [] => false
theorem am_f1_ok {R : String} {cl : List vw_C} {tl : List Cond} {host : String} {q : Nat × Nat × Nat × Nat × Bool} {h : Nat} (hb : am_f1 R cl tl host q h = true) : ∃ r : vw_C, cl[q.2.1]? = some r ∧ q.2.2.1 < r.2.2 ∧ (r.2.1 q.2.2.1).1 = r.1 ∧ (q.2.2.2.1 ≠ 2 → (r.2.1 q.2.2.1).2.2.2 = false) ∧ am_kd q.2.2.2.1 (r.2.1 q.2.2.1).2.2.1 ∧
    (q.2.2.2.2 = true → Cond.fieldLinkNest R q.1 r.1 (r.2.1 q.2.2.1).2.1 (r.2.1 q.2.2.1).2.2.1 host ∈ tl.filter am_nest) ∧ (q.2.2.2.2 = false → Cond.fieldLink R q.1 r.1 (r.2.1 q.2.2.1).2.1 (r.2.1 q.2.2.1).2.2.1 ∈ tl.filter goodWord) := by
  obtain ⟨n, ci, j, kind, b⟩ := q
  unfold am_f1 at hb
  split at hb
  · cases hb
  · rename_i r hr
    simp only [Bool.and_eq_true, Bool.or_eq_true, decide_eq_true_eq] at hb
    obtain ⟨⟨⟨⟨b1, b2⟩, b3⟩, b4⟩, b5⟩ := hb
    refine ⟨r, hr, b1, b2, fun h2 => b3.resolve_left h2, am_kdB_ok b4, fun e => ?_, fun e => ?_⟩
    · dsimp only at e
      subst e
      exact am_in_n b5 rfl
    · dsimp only at e
      subst e
      exact am_in_g b5 rfl
theorem am_fB_all {R : String} {cl : List vw_C} {tl : List Cond} {host : String} : ∀ (l : List (Nat × Nat × Nat × Nat × Bool)) (hs : List Nat), am_fB R cl tl host l hs = true → ∀ q ∈ l, ∃ h, am_f1 R cl tl host q h = true
  | [], _, _, q, hq => by cases hq
  | a :: r, h :: hs, hb, q, hq => by
    simp only [am_fB, Bool.and_eq_true] at hb
    rcases List.mem_cons.mp hq with e | hq
    · subst e
      exact ⟨h, hb.1⟩
    · exact am_fB_all r hs hb.2 q hq
  | _ :: _, [], hb, _, _ => by cases hb
theorem am_fB_ok {Y : am_Y} {cl : List vw_C} {tl : List Cond} {host : String} {hs : List Nat} (h : am_fB Y.1 cl tl host Y.2.2.1 hs = true) : am_fok Y cl (tl.filter goodWord) (tl.filter am_nest) host := by
  intro q hq
  obtain ⟨k, hk⟩ := am_fB_all _ hs h q hq
  exact am_f1_ok hk
def am_s1 (R : String) (zs : List (Nat × String × String × String)) (tl : List Cond) (host : String) (q : Nat × Nat × Nat × Bool) (h : Nat) : Bool := match zs[q.2.2.1]? with
  | none => false
  | some r => decide (r.1 = q.2.1) && (match q.2.2.2 with
      | true => am_in tl h (.fieldLinkNest R q.1 r.2.1 r.2.2.1 r.2.2.2 host)
      | false => am_in tl h (.fieldLink R q.1 r.2.1 r.2.2.1 r.2.2.2))
def am_sB (R : String) (zs : List (Nat × String × String × String)) (tl : List Cond) (host : String) : List (Nat × Nat × Nat × Bool) → List Nat → Bool
  | [], _ => true
  | q :: r, h :: hs => am_s1 R zs tl host q h && am_sB R zs tl host r hs
  | _ :: _, [] => false
theorem am_sB_all {R : String} {zs : List (Nat × String × String × String)} {tl : List Cond} {host : String} : ∀ (l : List (Nat × Nat × Nat × Bool)) (hs : List Nat), am_sB R zs tl host l hs = true → ∀ q ∈ l, ∃ h, am_s1 R zs tl host q h = true
  | [], _, _, q, hq => by cases hq
  | a :: r, h :: hs, hb, q, hq => by
    simp only [am_sB, Bool.and_eq_true] at hb
    rcases List.mem_cons.mp hq with e | hq
    · subst e
      exact ⟨h, hb.1⟩
    · exact am_sB_all r hs hb.2 q hq
  | _ :: _, [], hb, _, _ => by cases hb
theorem am_sB_ok {Y : am_Y} {zs : List (Nat × String × String × String)} {tl : List Cond} {host : String} {hs : List Nat} (h : am_sB Y.1 zs tl host Y.2.2.2 hs = true) : am_sok Y zs (tl.filter goodWord) (tl.filter am_nest) host := by
  intro q hq
  obtain ⟨k, hk⟩ := am_sB_all _ hs h q hq
  obtain ⟨n, kc, si, b⟩ := q
  unfold am_s1 at hk
  split at hk
  · cases hk
  · rename_i r hr
    simp only [Bool.and_eq_true, decide_eq_true_eq] at hk
    refine ⟨r, hr, hk.1, fun e => ?_, fun e => ?_⟩
    · dsimp only at e
      subst e
      exact am_in_n hk.2 rfl
    · dsimp only at e
      subst e
      exact am_in_g hk.2 rfl
def am_cB (Y : am_Y) (cc : ByteArray) : Nat → List (Option am_I) → Bool
  | _, [] => true
  | pc, none :: r => am_cB Y cc (pc + 1) r
  | pc, some q :: r => decide (decode cc pc = .ok (q.1, q.2.1)) && am_ck Y pc q.1 q.2.2 && am_cB Y cc (pc + 1) r
theorem am_cB_all {Y : am_Y} {cc : ByteArray} : ∀ (l : List (Option am_I)) (p0 : Nat), am_cB Y cc p0 l = true → ∀ (n : Nat) (q : am_I), l[n]? = some (some q) → decode cc (p0 + n) = .ok (q.1, q.2.1) ∧ am_ck Y (p0 + n) q.1 q.2.2 = true
  | [], _, _, n, q, hq => by simp at hq
  | none :: r, p0, hb, n, q, hq => by
    match n, hq with
    | 0, hq => simp at hq
    | n + 1, hq =>
      have h1 := am_cB_all r (p0 + 1) hb n q (by simpa using hq)
      rw [show p0 + 1 + n = p0 + (n + 1) by omega] at h1
      exact h1
  | some a :: r, p0, hb, n, q, hq => by
    simp only [am_cB, Bool.and_eq_true, decide_eq_true_eq] at hb
    match n, hq with
    | 0, hq =>
      simp at hq
      subst hq
      exact hb.1
    | n + 1, hq =>
      have h1 := am_cB_all r (p0 + 1) hb.2 n q (by simpa using hq)
      rw [show p0 + 1 + n = p0 + (n + 1) by omega] at h1
      exact h1
theorem am_ok_of {S : am_Sy} {M : am_Me} (h1 : plainName (am_nm M).cls = true) (h2 : (am_nm M).cls = (am_yl M).1) (h3 : am_kok (am_yl M) (am_tw S)) (h4 : am_fok (am_yl M) (am_cl S) (am_tw S) (am_nn S) (am_ho S)) (h5 : am_sok (am_yl M) (am_zs S) (am_tw S) (am_nn S) (am_ho S)) (h6 : am_cB (am_yl M) (am_cc M) 0 (am_cd M) = true) : am_ok S M :=
  ⟨h1, h2, h3, h4, h5, fun pc q hq => by
    have := am_cB_all _ 0 h6 pc q hq
    rw [Nat.zero_add] at this
    exact this⟩
/-! call sites -/
def am_lB (S : am_Sy) (tl : List Cond) (M M2 : am_Me) (idx : Nat) (nest : Bool) (n h1 h2 h3 : Nat) : Bool :=
  (match nest with
    | true => am_in tl h1 (.methodLinkNest (am_yl M).1 idx (am_nm M2) (am_ho S))
    | false => am_in tl h1 (.methodLink (am_yl M).1 idx (am_nm M2))) && am_in tl h2 (.code (am_nm M2) (am_cc M2) (am_mx M2) (am_rt M2)) && am_in tl h3 (.initialized (am_nm M2).cls) &&
  decide ((am_nm M2).cls ≠ "java/lang/invoke/MethodHandle" ∧ (am_nm M2).cls ≠ "java/lang/invoke/VarHandle" ∧ (parseMethodDescriptor (am_nm M2).desc).map (fun d => d.parameters.length) = some n) &&
  decide ((am_rm M2).frames + 1 ≤ (am_rm M).frames ∧ (am_rm M2).cells = 0 ∧ (am_rm M2).slots = 0 ∧ 8 + (am_mx M2 + 11) + (am_rm M2).locals ≤ (am_rm M).locals)
theorem am_lB_ok {S : am_Sy} {tl : List Cond} {M M2 : am_Me} {idx : Nat} {nest : Bool} {n h1 h2 h3 : Nat} (ht : am_tw S = tl.filter goodWord) (hn : am_nn S = tl.filter am_nest) (h : am_lB S tl M M2 idx nest n h1 h2 h3 = true) : am_lk S M M2 idx nest n := by
  unfold am_lB at h
  simp only [Bool.and_eq_true, decide_eq_true_eq] at h
  obtain ⟨⟨⟨⟨b1, b2⟩, b3⟩, b4⟩, b5⟩ := h
  refine ⟨fun e => ?_, fun e => ?_, by rw [ht]; exact am_in_g b2 rfl, by rw [ht]; exact am_in_g b3 rfl, b4, b5.1, b5.2.1, b5.2.2.1, b5.2.2.2⟩
  · subst e
    rw [ht]
    exact am_in_g b1 rfl
  · subst e
    rw [hn]
    exact am_in_n b1 rfl
def am_okY (S : am_Sy) (Y : am_Y) : Prop := am_kok Y (am_tw S) ∧ am_fok Y (am_cl S) (am_tw S) (am_nn S) (am_ho S) ∧ am_sok Y (am_zs S) (am_tw S) (am_nn S) (am_ho S)
theorem am_ok_ofY {S : am_Sy} {M : am_Me} {Y : am_Y} {cd : List (Option am_I)} (h1 : plainName (am_nm M).cls = true) (h2 : (am_nm M).cls = Y.1) (hY : am_yl M = Y) (hc : am_cd M = cd) (h : am_okY S Y) (h6 : am_cB Y (am_cc M) 0 cd = true) : am_ok S M := by
  subst hY
  subst hc
  exact am_ok_of h1 h2 h.1 h.2.1 h.2.2 h6
