section
variable {F x a r b o K len : Nat} {M N : zMi} {X : zMl} {xs : Nat → Int32} {A : Pg}
theorem chr_v : ∀ v, v < 256 → znar .char (zi2c (nI v)) = nI v := by decide +kernel
theorem c_room {p n : Nat} (h : M p 1 = nI n) (hn : n ≤ 160) : f_X7_hasRoom F p M = some (if n < 160 then 1 else 0) := by
  unfold f_X7_hasRoom
  rw [h, if_neg (nI_pos (by omega))]
  by_cases k : n < 160
  · rw [if_pos k, if_pos (show nI n < 160 from nI_lt (b := 160) k (by decide))]
  · rw [if_neg k, if_neg (show ¬ nI n < 160 from nI_nlt (b := 160) (by omega) (by omega))]
theorem c_addC {p n v : Nat} (h : M p 1 = nI n) (hn : n < 160) (hv : v < 256) : f_X7_add F p (zi2c (nI v)) M = some (nI (n + 1), wI (wI M (p + 1) n (nI v)) p 1 (nI (n + 1))) := by
  have e : wI M (p + 1) n (nI v) p 1 = nI n := by rw [wI_ne (by omega)]; exact h
  unfold f_X7_add
  rw [c_room h (by omega), cal_s, if_pos hn, if_neg (show ¬ (1 : Int32) = 0 by decide), h, inbN hn (by decide), grd_t, ixN (by omega), chr_v v hv, bnd_e, e, ad1, bnd_e]
  simp [wI]
end
