abbrev cnt : (Nat → Bool) → Nat → Nat := kt
theorem rl_ks {b : Nat → Bool} {P F S : Nat → Nat} {v : Int32} {gf gg : Nat → Int32} {ve : Nat} (hg : ∀ s, s < 192 → b s = true → gf (kt b s) = nI s) (hP : ∀ s, s < 192 → b s = true → P (kt b s) = s) (e : v = nI ve) : lsR (v + 1) (nI (kt b 192)) 0 gf gg (ve + 1) (kt b 192) 0 P F S := by
  refine ⟨by rw [e, nI_1], rfl, rfl, fun k hk => ?_, fun k hk => absurd hk (by omega)⟩
  obtain ⟨s, s1, s2, s3⟩ := kt_surj b k 192 hk
  rw [← s3, hg s s1 s2, hP s s1 s2]
