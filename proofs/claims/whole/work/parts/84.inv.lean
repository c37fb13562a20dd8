section
variable {F x b o K : Nat} {M N : zMi} {X : zMl}
def iTx (M : zMi) (x b : Nat) : Prop := ∃ n, n ≤ 160 ∧ M (x + 1) 1 = nI n ∧ M b 2 = nI n ∧ ∀ j, j < n → M (x + 2) j = M (b + 1) j ∧ ∃ v, v < 256 ∧ M (b + 1) j = nI v
def iSl (K : Nat) (M : zMi) (x b : Nat) : Prop := ∀ s, s < 2 → M (x + 342 + 22 * s) 1 = M (b + 7) s ∧ (M (b + 7) s = 0 ∨ (M (b + 7) s = 1 ∧ RC M (x + 343 + 22 * s) (fun i => M (b + 6) (121 * s + i)) ∧ WF K (fun i => M (b + 6) (121 * s + i))))
/-- between two calls of the law: the object x, the model b -/
def INV (K : Nat) (M : zMi) (x b : Nat) : Prop := iTx M x b ∧ RC M (x + 3) (M (b + 3)) ∧ WF K (M (b + 3)) ∧ (∃ p c, HR K M (x + 45) b p c) ∧ iSl K M x b
/-- memories that differ where nothing is held: the model's refusal, spot, its trial and read pages, the object's trial, the text's reading -/
theorem INV_fr (h : INV K M x b) (hb : b = x + 386) (e1 : ∀ q, q ≠ b → q ≠ b + 2 → q ≠ b + 4 → q ≠ x + 1 → (q < x + 24 ∨ x + 44 < q) → N q = M q) (e2 : ∀ j, j ≠ 0 → j ≠ 3 → N b j = M b j) (e3 : N (x + 1) 1 = M (x + 1) 1) : INV K N x b := by
  subst hb
  obtain ⟨⟨n, t1, t2, t3, t4⟩, h2, h3, ⟨p, c, h4⟩, h5⟩ := h
  have r1 : N (x + 386 + 3) = M (x + 386 + 3) := e1 _ (by omega) (by omega) (by omega) (by omega) (by omega)
  have r6 : N (x + 386 + 6) = M (x + 386 + 6) := e1 _ (by omega) (by omega) (by omega) (by omega) (by omega)
  have r7 : N (x + 386 + 7) = M (x + 386 + 7) := e1 _ (by omega) (by omega) (by omega) (by omega) (by omega)
  refine ⟨⟨n, t1, e3.trans t2, (e2 2 (by decide) (by decide)).trans t3, fun j hj => ?_⟩, ?_, by rw [r1]; exact h3, ⟨p, c, ?_⟩, fun s hs => ?_⟩
  · rw [e1 (x + 2) (by omega) (by omega) (by omega) (by omega) (by omega), e1 (x + 386 + 1) (by omega) (by omega) (by omega) (by omega) (by omega)]
    exact t4 j hj
  · rw [r1]; exact RC_fr h2 (fun q q1 q2 => e1 q (by omega) (by omega) (by omega) (by omega) (by omega))
  · exact HR_fr h4 (fun j _ => by rw [e1 (x + 45) (by omega) (by omega) (by omega) (by omega) (by omega)]) (e2 8 (by decide) (by decide)) (e1 _ (by omega) (by omega) (by omega) (by omega) (by omega)) (fun q q1 q2 => e1 q (by omega) (by omega) (by omega) (by omega) (by omega))
  · obtain ⟨s1, s2⟩ := h5 s hs
    rw [r7, r6, e1 (x + 342 + 22 * s) (by omega) (by omega) (by omega) (by omega) (by omega)]
    refine ⟨s1, ?_⟩
    rcases s2 with s2 | ⟨s2, s3, s4⟩
    · exact Or.inl s2
    · exact Or.inr ⟨s2, RC_fr s3 (fun q q1 q2 => e1 q (by omega) (by omega) (by omega) (by omega) (by omega)), s4⟩
theorem INV_mono {K' : Nat} (h : INV K M x b) (hK : K ≤ K') (h2 : K' < 2000000000) : INV K' M x b := by
  obtain ⟨i1, i2, i3, ⟨p, c, i4⟩, i5⟩ := h
  refine ⟨i1, i2, WF_mono i3 hK h2, ⟨p, c, HR_mono i4 hK h2⟩, fun s hs => ⟨(i5 s hs).1, ?_⟩⟩
  rcases (i5 s hs).2 with k | ⟨k1, k2, k3⟩
  · exact Or.inl k
  · exact Or.inr ⟨k1, k2, WF_mono k3 hK h2⟩
theorem lg_cmp_s {y : Int64} : lg_cmp y y = 0 := by
  unfold lg_cmp
  rw [if_neg (by simp), if_pos rfl]
/-- the end that the law's cases share -/
theorem law_fin {k : Int32 → zMi → zMl → Option Int32} {v4 code v : Int32} {M2 : zMi} {X1 : zMl} (h : M2 b 0 = code) (hv : code = 0 → X1 o 0 = v.toInt64) : cal (f_X11_thrown F b M2) (fun r3 => (if r3 = code then (if code = (0 : Int32) then (if (lg_cmp (X1 o 0) (v.toInt64)) = (0 : Int32) then k (v4 + (4 : Int32)) M2 X1 else some (0 : Int32)) else k (v4 + (4 : Int32)) M2 X1) else some (0 : Int32))) = k (v4 + 4) M2 X1 := by
  unfold f_X11_thrown
  rw [cal_s, if_pos h]
  by_cases c : code = 0
  · rw [if_pos c, hv c, lg_cmp_s, if_pos rfl]
  · rw [if_neg c]
end
