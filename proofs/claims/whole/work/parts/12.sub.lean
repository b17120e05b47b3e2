/-! a group of cells inside a larger one: cells b .. b + n of it -/
/-- L1 lies in L from the cell b on -/
def rd_E (L L1 : rd_L) (b : Nat) : Prop := b + L1.1 ≤ L.1 ∧ ∀ (ad : Nat → Nat) (k : Nat), k < L1.1 → ∀ x, L.2 ad (b + k) x = L1.2 (fun i => ad (b + i)) k x
/-- the larger memory with the part's put in -/
def rd_pm (n b : Nat) (M M1 : rd_M) : rd_M := fun k => if b ≤ k ∧ k < b + n then M1 (k - b) else M k
theorem rd_E.J {L L1 : rd_L} {b : Nat} (h : rd_E L L1 b) {ad : Nat → Nat} (hJ : rd_J L ad) : rd_J L1 (fun i => ad (b + i)) := by
  intro i j hi hj e
  have := hJ (b + i) (b + j) (by have := h.1; omega) (by have := h.1; omega) e
  omega
theorem rd_E.P {D : va_G} {cl : List vw_C} {L L1 : rd_L} {b : Nat} (h : rd_E L L1 b) {ad : Nat → Nat} {M : rd_M} {H : Heap} (hP : va_P D cl (rd_ws L ad M) H) : va_P D cl (rd_ws L1 (fun i => ad (b + i)) (fun k => M (b + k))) H := by
  intro k q hk
  by_cases hl : k < L1.1
  · rw [rd_at hl] at hk
    cases hk
    have h1 := hP (b + k) _ (rd_at (L := L) (ad := ad) (M := M) (k := b + k) (by have := h.1; omega))
    rw [h.2 ad k hl] at h1
    exact h1
  · rw [rd_ge hl] at hk
    cases hk
theorem rd_E.back {D : va_G} {cl : List vw_C} {L L1 : rd_L} {b : Nat} (h : rd_E L L1 b) {ad : Nat → Nat} (hJ : rd_J L ad) {M M1 : rd_M} {H H1 : Heap} (hP : va_P D cl (rd_ws L ad M) H) (hP1 : va_P D cl (rd_ws L1 (fun i => ad (b + i)) M1) H1) (hk : ∀ q : Nat, q < H.size → ¬ rd_A L1 (fun i => ad (b + i)) H.size q → H1[q]? = H[q]?) : va_P D cl (rd_ws L ad (rd_pm L1.1 b M M1)) H1 := by
  intro k q hq
  by_cases hl : k < L.1
  · rw [rd_at hl] at hq
    cases hq
    by_cases hin : b ≤ k ∧ k < b + L1.1
    · have h1 := hP1 (k - b) _ (rd_at (L := L1) (ad := fun i => ad (b + i)) (M := M1) (k := k - b) (by omega))
      have e := h.2 ad (k - b) (by omega) (M1 (k - b))
      rw [show b + (k - b) = k by omega] at e
      rw [← e, show ad (b + (k - b)) = ad k by rw [show b + (k - b) = k by omega]] at h1
      show va_at D cl (ad k, L.2 ad k (rd_pm L1.1 b M M1 k)) H1
      unfold rd_pm
      rw [if_pos hin]
      exact h1
    · have h1 := hP k _ (rd_at (L := L) (ad := ad) (M := M) hl)
      show va_at D cl (ad k, L.2 ad k (rd_pm L1.1 b M M1 k)) H1
      unfold rd_pm
      rw [if_neg hin]
      have hlt := h1.lt
      refine h1.kept (hk _ hlt (fun z => ?_))
      rcases z with ⟨i, hi, e⟩ | z
      · have := hJ (b + i) k (by have := h.1; omega) hl e
        omega
      · exact absurd hlt (Nat.not_lt.mpr z)
  · rw [rd_ge hl] at hq
    cases hq
