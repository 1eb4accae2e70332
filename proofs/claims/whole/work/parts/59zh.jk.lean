/-! the same invariant at every number of calls -/
def JK (_ : Nat) (σ τ : am_S) : Prop := JJ σ τ
theorem JK_use {L : Nat} : ∀ k, 4 * k + 4 ≤ L → lw_ops (JK k) (JK (k + 1)) := fun _ _ => pu_law c_all
