section
def cq (x y z v : Int32) : Nat := (if x = v then 1 else 0) + (if y = v then 1 else 0) + (if z = v then 1 else 0)
def rH (R : Pg) (A : Pg) : Prop := R 5 = A 4 ∧ R 6 = A 5 ∧ R 7 = A 2 ∧ R 8 = A 3 ∧ R 9 = A 7 ∧ R 10 = A 8 ∧ R 11 = A 9
def rL (R : Pg) (A : Pg) : Prop := R 0 = A 16 ∧ R 1 = A 17 ∧ R 2 = A 18 ∧ R 3 = A 19 ∧ R 4 = A 20 ∧ R 5 = A 21 ∧ R 6 = A 22
def rW (R0 R1 : Pg) (A : Pg) : Prop := R0 0 = A 6 ∧ ∀ j, j < 30 → nI j < A 6 → R1 j = A (91 + j)
def rZ (f : Nat → Pg) (A : Pg) : Prop := ∀ z, z < 9 → nI z < A 4 → ∀ k, k < 4 → f z k = A (23 + 4 * z + k)
def rS (f : Nat → Pg) (A : Pg) : Prop := ∀ s, s < 4 → ∀ k, k < 8 → f s k = A (59 + 8 * s + k)
def rRs (R1 : Pg) (A : Pg) : Prop := (∀ i, i < 3 → (R1 i = 0 ∨ R1 i = 1 ∨ R1 i = 2) ∧ (¬ nI i < A 0 → R1 i = 0)) ∧ cq (R1 0) (R1 1) (R1 2) 0 = cq (A 13) (A 14) (A 15) 0 ∧ cq (R1 0) (R1 1) (R1 2) 1 = cq (A 13) (A 14) (A 15) 1
def rT (R0 R1 : Pg) (A : Pg) : Prop := R0 0 = A 0 ∧ R0 1 = A 1 ∧ R0 5 = A 11 ∧ R0 6 = A 12 ∧ R0 3 = (if A 10 = 1 then 1 else 0) ∧ (A 10 ≠ 2 → R0 4 = -9) ∧ (A 10 = 2 → ∃ i, i < 3 ∧ nI i < A 0 ∧ R0 4 = nI i ∧ R1 i = 0) ∧ rRs R1 A
/-- a splice is just done: the page doesn't have it yet -/
def rTd (R0 R1 : Pg) (A : Pg) : Prop := R0 0 = A 0 ∧ R0 1 = A 1 ∧ R0 5 = 0 ∧ R0 6 = A 12 + 1 ∧ R0 3 = 0 ∧ R0 4 = -9 ∧ ∃ i, i < 3 ∧ nI i < A 0 ∧ R1 i = 3 ∧ rRs (pU R1 i 0) A
def RCt (T : Pg → Pg → Pg → Prop) (M : zMi) (a : Nat) (A : Pg) : Prop := rH (M a) A ∧ rL (M (a + 7)) A ∧ rW (M (a + 3)) (M (a + 4)) A ∧ T (M (a + 5)) (M (a + 6)) A ∧ rZ (fun z => M (a + 8 + z)) A ∧ rS (fun s => M (a + 17 + s)) A
abbrev RC (M : zMi) (a : Nat) (A : Pg) : Prop := RCt rT M a A
def fr (a : Nat) (M M' : zMi) : Prop := ∀ q, q < a ∨ a + 20 < q → M' q = M q
theorem fr_r {a : Nat} {M : zMi} : fr a M M := fun _ _ => rfl
theorem fr_t {a : Nat} {M M' M'' : zMi} (h : fr a M M') (h' : fr a M' M'') : fr a M M'' := fun q hq => (h' q hq).trans (h q hq)
theorem fr_w {a q j : Nat} {M : zMi} {v : Int32} (h : a ≤ q ∧ q ≤ a + 20) : fr a M (wI M q j v) := fun x hx => wI_ne (by omega)
variable {A : Pg} {R R0 R1 : Pg} {f f' : Nat → Pg} {i : Nat} {v : Int32} {M M' : zMi} {a : Nat} {T : Pg → Pg → Pg → Prop}
theorem rH_u (hi : i ≠ 2 ∧ i ≠ 3 ∧ i ≠ 4 ∧ i ≠ 5 ∧ i ≠ 7 ∧ i ≠ 8 ∧ i ≠ 9) (h : rH R A) : rH R (pU A i v) := by
  unfold rH; rw [pU_n (by omega), pU_n (by omega), pU_n (by omega), pU_n (by omega), pU_n (by omega), pU_n (by omega), pU_n (by omega)]; exact h
theorem rL_u (hi : i < 16 ∨ 22 < i) (h : rL R A) : rL R (pU A i v) := by
  unfold rL; rw [pU_n (by omega), pU_n (by omega), pU_n (by omega), pU_n (by omega), pU_n (by omega), pU_n (by omega), pU_n (by omega)]; exact h
theorem rW_u (hi : i ≠ 6 ∧ (i < 91 ∨ 120 < i)) (h : rW R0 R1 A) : rW R0 R1 (pU A i v) := by
  refine ⟨by rw [pU_n (by omega)]; exact h.1, fun j hj hq => ?_⟩
  rw [pU_n (by omega)] at hq ⊢; exact h.2 j hj hq
theorem rZ_u (hi : i ≠ 4 ∧ (i < 23 ∨ 58 < i)) (hf : ∀ z, z < 9 → f' z = f z) (h : rZ f A) : rZ f' (pU A i v) := by
  intro z hz hq k hk
  rw [pU_n (by omega)] at hq
  rw [pU_n (by omega), hf z hz]; exact h z hz hq k hk
theorem rS_u (hi : i < 59 ∨ 90 < i) (hf : ∀ s, s < 4 → f' s = f s) (h : rS f A) : rS f' (pU A i v) := by
  intro s hs k hk
  rw [pU_n (by omega), hf s hs]; exact h s hs k hk
theorem rRs_u (hi : i ≠ 0 ∧ (i < 13 ∨ 15 < i)) (h : rRs R1 A) : rRs R1 (pU A i v) := by
  unfold rRs; rw [pU_n (by omega), pU_n (by omega), pU_n (by omega), pU_n (by omega)]; exact h
theorem rT_u (hi : i ≠ 0 ∧ i ≠ 1 ∧ (i < 10 ∨ 15 < i)) (h : rT R0 R1 A) : rT R0 R1 (pU A i v) := by
  unfold rT
  rw [pU_n (by omega), pU_n (by omega), pU_n (by omega), pU_n (by omega), pU_n (by omega)]
  exact ⟨h.1, h.2.1, h.2.2.1, h.2.2.2.1, h.2.2.2.2.1, h.2.2.2.2.2.1, h.2.2.2.2.2.2.1, rRs_u (by omega) h.2.2.2.2.2.2.2⟩
theorem rTd_u (hi : i ≠ 0 ∧ i ≠ 1 ∧ (i < 10 ∨ 15 < i)) (h : rTd R0 R1 A) : rTd R0 R1 (pU A i v) := by
  unfold rTd
  rw [pU_n (by omega), pU_n (by omega), pU_n (by omega)]
  obtain ⟨h1, h2, h3, h4, h5, h6, j, j1, j2, j3, j4⟩ := h
  exact ⟨h1, h2, h3, h4, h5, h6, j, j1, j2, j3, rRs_u (by omega) j4⟩
/-- what a teams' relation must bear: pages that differ elsewhere -/
def Tu (T : Pg → Pg → Pg → Prop) : Prop := ∀ R0 R1 A i v, (i ≠ 0 ∧ i ≠ 1 ∧ (i < 10 ∨ 15 < i)) → T R0 R1 A → T R0 R1 (pU A i v)
theorem Tu_T : Tu rT := fun _ _ _ _ _ hi h => rT_u hi h
theorem Tu_d : Tu rTd := fun _ _ _ _ _ hi h => rTd_u hi h
theorem RC_sh (hT : Tu T) {s k : Nat} (hs : s < 4) (hk : k < 8) (h : RCt T M a A) : RCt T (wI M (a + 17 + s) k v) a (pU A (59 + 8 * s + k) v) := by
  obtain ⟨h1, h2, h3, h4, h5, h6⟩ := h
  refine ⟨?_, ?_, ?_, ?_, ?_, ?_⟩
  · rw [wI_ne (by omega)]; exact rH_u (by omega) h1
  · rw [wI_ne (by omega)]; exact rL_u (by omega) h2
  · rw [wI_ne (by omega), wI_ne (by omega)]; exact rW_u (by omega) h3
  · rw [wI_ne (by omega), wI_ne (by omega)]; exact hT _ _ _ _ _ (by omega) h4
  · exact rZ_u (by omega) (fun z hz => wI_ne (by omega)) h5
  · intro t ht j hj
    have := h6 t ht j hj
    unfold wI pU
    dsimp only
    by_cases e : t = s ∧ j = k
    · obtain ⟨rfl, rfl⟩ := e; simp
    · rw [if_neg (by omega), if_neg (by omega)]; exact this
theorem RC_h (hT : Tu T) {j i : Nat} (hj : (j = 7 ∧ i = 2) ∨ (j = 8 ∧ i = 3) ∨ (j = 9 ∧ i = 7) ∨ (j = 10 ∧ i = 8) ∨ (j = 11 ∧ i = 9)) (h : RCt T M a A) : RCt T (wI M a j v) a (pU A i v) := by
  obtain ⟨h1, h2, h3, h4, h5, h6⟩ := h
  refine ⟨?_, ?_, ?_, ?_, ?_, ?_⟩
  · unfold rH wI pU at *
    obtain ⟨a1, a2, a3, a4, a5, a6, a7⟩ := h1
    rcases hj with ⟨rfl, rfl⟩ | ⟨rfl, rfl⟩ | ⟨rfl, rfl⟩ | ⟨rfl, rfl⟩ | ⟨rfl, rfl⟩ <;> simp_all
  · rw [wI_ne (by omega)]; exact rL_u (by omega) h2
  · rw [wI_ne (by omega), wI_ne (by omega)]; exact rW_u (by omega) h3
  · rw [wI_ne (by omega), wI_ne (by omega)]; exact hT _ _ _ _ _ (by omega) h4
  · exact rZ_u (by omega) (fun z hz => wI_ne (by omega)) h5
  · exact rS_u (by omega) (fun z hz => wI_ne (by omega)) h6
theorem RC_l (hT : Tu T) {j : Nat} (hj : j < 7) (h : RCt T M a A) : RCt T (wI M (a + 7) j v) a (pU A (16 + j) v) := by
  obtain ⟨h1, h2, h3, h4, h5, h6⟩ := h
  refine ⟨?_, ?_, ?_, ?_, ?_, ?_⟩
  · rw [wI_ne (by omega)]; exact rH_u (by omega) h1
  · unfold rL wI pU at *
    obtain ⟨a1, a2, a3, a4, a5, a6, a7⟩ := h2
    have c : j = 0 ∨ j = 1 ∨ j = 2 ∨ j = 3 ∨ j = 4 ∨ j = 5 ∨ j = 6 := by omega
    rcases c with rfl | rfl | rfl | rfl | rfl | rfl | rfl <;> simp_all
  · rw [wI_ne (by omega), wI_ne (by omega)]; exact rW_u (by omega) h3
  · rw [wI_ne (by omega), wI_ne (by omega)]; exact hT _ _ _ _ _ (by omega) h4
  · exact rZ_u (by omega) (fun z hz => wI_ne (by omega)) h5
  · exact rS_u (by omega) (fun z hz => wI_ne (by omega)) h6
theorem RC_wv (hT : Tu T) {j : Nat} (hj : j < 30) (h : RCt T M a A) : RCt T (wI M (a + 4) j v) a (pU A (91 + j) v) := by
  obtain ⟨h1, h2, h3, h4, h5, h6⟩ := h
  refine ⟨?_, ?_, ?_, ?_, ?_, ?_⟩
  · rw [wI_ne (by omega)]; exact rH_u (by omega) h1
  · rw [wI_ne (by omega)]; exact rL_u (by omega) h2
  · refine ⟨by rw [wI_ne (by omega), pU_n (by omega)]; exact h3.1, fun k hk hq => ?_⟩
    rw [pU_n (by omega)] at hq
    have := h3.2 k hk hq
    unfold wI pU
    by_cases e : k = j
    · subst e; simp
    · rw [if_neg (by omega), if_neg (by omega)]; exact this
  · rw [wI_ne (by omega), wI_ne (by omega)]; exact hT _ _ _ _ _ (by omega) h4
  · exact rZ_u (by omega) (fun z hz => wI_ne (by omega)) h5
  · exact rS_u (by omega) (fun z hz => wI_ne (by omega)) h6
theorem RC_zn (hT : Tu T) {z k : Nat} (hz : z < 9) (hk : k < 4) (h : RCt T M a A) : RCt T (wI M (a + 8 + z) k v) a (pU A (23 + 4 * z + k) v) := by
  obtain ⟨h1, h2, h3, h4, h5, h6⟩ := h
  refine ⟨?_, ?_, ?_, ?_, ?_, ?_⟩
  · rw [wI_ne (by omega)]; exact rH_u (by omega) h1
  · rw [wI_ne (by omega)]; exact rL_u (by omega) h2
  · rw [wI_ne (by omega), wI_ne (by omega)]; exact rW_u (by omega) h3
  · rw [wI_ne (by omega), wI_ne (by omega)]; exact hT _ _ _ _ _ (by omega) h4
  · intro t ht hq j hj
    rw [pU_n (by omega)] at hq
    have := h5 t ht hq j hj
    unfold wI pU
    dsimp only
    by_cases e : t = z ∧ j = k
    · obtain ⟨rfl, rfl⟩ := e; simp
    · rw [if_neg (by omega), if_neg (by omega)]; exact this
  · exact rS_u (by omega) (fun z hz => wI_ne (by omega)) h6
/-- a change of the teams alone, in both -/
theorem RC_tm {T' : Pg → Pg → Pg → Prop} {B : Pg} (h : RCt T M a A) (hB : ∀ k, k ≠ 0 → k ≠ 1 → (k < 10 ∨ 15 < k) → B k = A k) (hM : ∀ q, q ≠ a + 5 → q ≠ a + 6 → M' q = M q) (hT : T' (M' (a + 5)) (M' (a + 6)) B) : RCt T' M' a B := by
  obtain ⟨h1, h2, h3, h4, h5, h6⟩ := h
  refine ⟨?_, ?_, ?_, hT, ?_, ?_⟩
  · unfold rH; rw [hM a (by omega) (by omega), hB 4 (by decide) (by decide) (by decide), hB 5 (by decide) (by decide) (by decide), hB 2 (by decide) (by decide) (by decide), hB 3 (by decide) (by decide) (by decide), hB 7 (by decide) (by decide) (by decide), hB 8 (by decide) (by decide) (by decide), hB 9 (by decide) (by decide) (by decide)]; exact h1
  · unfold rL; rw [hM (a + 7) (by omega) (by omega), hB 16 (by decide) (by decide) (by decide), hB 17 (by decide) (by decide) (by decide), hB 18 (by decide) (by decide) (by decide), hB 19 (by decide) (by decide) (by decide), hB 20 (by decide) (by decide) (by decide), hB 21 (by decide) (by decide) (by decide), hB 22 (by decide) (by decide) (by decide)]; exact h2
  · rw [hM (a + 3) (by omega) (by omega), hM (a + 4) (by omega) (by omega)]
    refine ⟨by rw [hB 6 (by decide) (by decide) (by decide)]; exact h3.1, fun j hj hq => ?_⟩
    rw [hB 6 (by decide) (by decide) (by decide)] at hq
    rw [hB (91 + j) (by omega) (by omega) (by omega)]; exact h3.2 j hj hq
  · intro z hz hq k hk
    rw [hB 4 (by decide) (by decide) (by decide)] at hq
    rw [hB _ (by omega) (by omega) (by omega)]
    show M' (a + 8 + z) k = _
    rw [hM _ (by omega) (by omega)]; exact h5 z hz hq k hk
  · intro s hs k hk
    rw [hB _ (by omega) (by omega) (by omega)]
    show M' (a + 17 + s) k = _
    rw [hM _ (by omega) (by omega)]; exact h6 s hs k hk
end
