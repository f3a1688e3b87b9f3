theorem nr_at {b : Nat → Bool} {c t : Nat} (h : nr b c 176 16 none 12 = some t) : 16 ≤ t ∧ t < 192 ∧ b t = true := by
  rcases nr_some b c 176 16 none 12 t h with e | e
  · cases e
  · exact ⟨e.1, by omega, e.2.2⟩
theorem mvl_01 (c x : Int32) : mvl c x = 0 ∨ mvl c x = 1 := by
  unfold mvl
  by_cases h : c = 2
  · rw [if_pos h]; exact Or.inr rfl
  · rw [if_neg h]
    by_cases h2 : x = 0
    · rw [if_pos h2]; exact Or.inl rfl
    · rw [if_neg h2]; exact Or.inr rfl
theorem ru_mvl {c x7 x : Int32} (hc : c = 1 ∨ c = 2) (hx : (c = 1 ∧ x7 = 1) ∨ (¬ c = 1 ∧ x7 = 0)) : ru1 x7 x = mvl c x := by
  unfold ru1 mvl
  rcases hx with ⟨rfl, rfl⟩ | ⟨h, rfl⟩
  · rw [if_neg (show ¬ (1 : Int32) = 0 by decide), if_neg (show ¬ (1 : Int32) = 2 by decide)]
  · rw [if_pos rfl, if_pos (hc.resolve_left h)]
theorem re_fl {fl sl : Nat → Int32} {q t : Nat} {c x7 : Int32} (hq : q < 192) (h : ∀ i, i < 384 → fl i = sl i) (hc : c = 1 ∨ c = 2) (hx : (c = 1 ∧ x7 = 1) ∨ (¬ c = 1 ∧ x7 = 0)) : ∀ i, i < 384 → upd (upd fl (2 * t) (ru1 x7 (fl (2 * q)))) (2 * t + 1) (ru1 x7 (fl (2 * q + 1))) i = upd (upd sl (2 * t) (mvl c (sl (2 * q)))) (2 * t + 1) (mvl c (sl (2 * q + 1))) i := by
  rw [ru_mvl hc hx, ru_mvl hc hx, h (2 * q) (by omega), h (2 * q + 1) (by omega)]
  exact upd_of (upd_of h)
theorem re_w1 {c x7 x a b : Int32} (hx : (c = 1 ∧ x7 = 1) ∨ (¬ c = 1 ∧ x7 = 0)) (hc : c = 1 ∨ c = 2) (h : x = 0 → a = b) (z : mvl c x = 0) : rw1 x7 a = b := by
  unfold mvl at z
  unfold rw1
  rcases hx with ⟨rfl, rfl⟩ | ⟨h1, rfl⟩
  · rw [if_neg (show ¬ (1 : Int32) = 2 by decide)] at z
    rw [if_neg (show ¬ (1 : Int32) = 0 by decide)]
    by_cases e : x = 0
    · exact h e
    · rw [if_neg e] at z; exact absurd z (by decide)
  · rw [if_pos (hc.resolve_left h1)] at z; exact absurd z (by decide)
theorem re_fw {fw sw sl : Nat → Int32} {q t : Nat} {c x7 : Int32} (hq : q < 192) (h : ∀ i, i < 384 → sl i = 0 → fw i = sw i) (hc : c = 1 ∨ c = 2) (hx : (c = 1 ∧ x7 = 1) ∨ (¬ c = 1 ∧ x7 = 0)) : ∀ i, i < 384 → upd (upd sl (2 * t) (mvl c (sl (2 * q)))) (2 * t + 1) (mvl c (sl (2 * q + 1))) i = 0 → upd (upd fw (2 * t) (rw1 x7 (fw (2 * q)))) (2 * t + 1) (rw1 x7 (fw (2 * q + 1))) i = upd (upd sw (2 * t) (sw (2 * q))) (2 * t + 1) (sw (2 * q + 1)) i := by
  intro i hi z
  by_cases e : i = 2 * t + 1
  · subst e
    rw [pk_us] at z
    rw [pk_us, pk_us]
    exact re_w1 hx hc (h _ (by omega)) z
  · rw [pk_un e] at z
    rw [pk_un e, pk_un e]
    by_cases e2 : i = 2 * t
    · subst e2
      rw [pk_us] at z
      rw [pk_us, pk_us]
      exact re_w1 hx hc (h _ (by omega)) z
    · rw [pk_un e2] at z
      rw [pk_un e2, pk_un e2]
      exact h i hi z
section MR
variable {kc kn kz ko kl kr : Int32} {fw fl fs ff fv fk fp fy fq fi fj fm : Nat → Int32} {ve pa pb : Nat} {P F S : Nat → Nat}
theorem s_mReassign (m : MF fv fk fp fy fq fi fj ve pa pb P F S) (ok : okL pa pb P F S) (hv : ve + 1 < 2 ^ 31) (hv0 : ve ≠ 0) {s k n : Nat} (hs : s < 192) (hl : lg P pa s = true) (hk : hkP F pb s k n) {sc : Nat → Int32} (hfs : ∀ i, i < 192 → fs i = sc i) (hko : ko = 0) (hkl : (-1 : Int32) ≤ kl) {b1 o1 l1 d1 : Int32} {post : Int32 → Int32 → Int32 → Int32 → Int32 → (Nat → Int32) → (Nat → Int32) → (Nat → Int32) → (Nat → Int32) → (Nat → Int32) → (Nat → Int32) → (Nat → Int32) → (Nat → Int32) → (Nat → Int32) → Prop}
    (h2 : sc (pl F S pb s) = 0 → post 2 0 ko kl kr fw fl fv fk fp fy fq fi fj)
    (h3 : ¬ sc (pl F S pb s) = 0 → (nr (fb sc P pa S pb) (pl F S pb s / 16) 176 16 none 12 = none ∨ ¬ (n ≤ 20 ∧ pa + n ≤ 48)) → post 3 0 ko kl kr fw fl fv fk fp fy fq fi fj)
    (h5 : ¬ sc (pl F S pb s) = 0 → ∀ t, nr (fb sc P pa S pb) (pl F S pb s / 16) 176 16 none 12 = some t → (n ≤ 20 ∧ pa + n ≤ 48) → kl = 0 → post (-5) 0 1 kl kr fw fl fv fk fp fy fq fi fj)
    (hy : wk (pt (pa + n) + 2) ko (nl kl) (kr + 1) = (b1, o1, l1, d1))
    (h6 : ¬ sc (pl F S pb s) = 0 → ∀ t, nr (fb sc P pa S pb) (pl F S pb s / 16) 176 16 none 12 = some t → (n ≤ 20 ∧ pa + n ≤ 48) → ¬ kl = 0 → b1 = 0 → ∀ x7 : Int32, ((sc (pl F S pb s) = 1 ∧ x7 = 1) ∨ (¬ sc (pl F S pb s) = 1 ∧ x7 = 0)) → ∀ fv' fk' fp' fy' fq' fi' fj' : Nat → Int32, MF fv' fk' fp' fy' fq' fi' fj' ve pa pb P F S → post (-5) 0 o1 l1 d1 (upd (upd fw (2 * t) (rw1 x7 (fw (2 * pl F S pb s)))) (2 * t + 1) (rw1 x7 (fw (2 * pl F S pb s + 1)))) (upd (upd fl (2 * t) (ru1 x7 (fl (2 * pl F S pb s)))) (2 * t + 1) (ru1 x7 (fl (2 * pl F S pb s + 1)))) fv' fk' fp' fy' fq' fi' fj')
    (h7 : ¬ sc (pl F S pb s) = 0 → ∀ t, nr (fb sc P pa S pb) (pl F S pb s / 16) 176 16 none 12 = some t → (n ≤ 20 ∧ pa + n ≤ 48) → ¬ kl = 0 → b1 = 1 → ∀ x7 : Int32, ((sc (pl F S pb s) = 1 ∧ x7 = 1) ∨ (¬ sc (pl F S pb s) = 1 ∧ x7 = 0)) → ∀ (x : Int32) (fv' fk' fp' fy' fq' fi' fj' : Nat → Int32), ((x7 = 0 ∧ x = 1) ∨ (¬ x7 = 0 ∧ x = 0)) → MF fv' fk' fp' fy' fq' fi' fj' (ve + 1) pa n P (fun a => if a = k then s else F a) (fun a => if a = k then t else S a) → post x 0 o1 l1 d1 (upd (upd fw (2 * t) (rw1 x7 (fw (2 * pl F S pb s)))) (2 * t + 1) (rw1 x7 (fw (2 * pl F S pb s + 1)))) (upd (upd fl (2 * t) (ru1 x7 (fl (2 * pl F S pb s)))) (2 * t + 1) (ru1 x7 (fl (2 * pl F S pb s + 1)))) fv' fk' fp' fy' fq' fi' fj') :
    v_Model_reassign kc kn kz ko kl kr fw fl fs ff fv fk fp fy fq fi fj fm (nI (ct P pa s)) post := by
  have hd := pl_data ok hs hl
  have r0 := rwR_0.mp m.1
  have q1 := ok.1
  have q2 := ok.2.1
  refine s_mHas1 r0 ok (by omega) (has_c hv0 hs hl) ⟨fun z => absurd z (by decide), fun _ => ⟨fun _ => ⟨fun _ => ?_, fun z => absurd hko z⟩, fun z => absurd (by decide) z⟩⟩
  refine s_mOwnOf r0 ok hs hl (s_mPlaceOf r0 ok hs hl ⟨vp_in_nI hd.2 (by omega), ?_⟩)
  rw [nI_clamp (by omega), hfs _ hd.2]
  refine ⟨fun e => s_mNearest r0 ok hfs hd.2 (s_mPairOfFirst r0 ok hs ?_), h2⟩
  have G : ∀ t, nr (fb sc P pa S pb) (pl F S pb s / 16) 176 16 none 12 = some t → ∀ x5 x6 : Int32, ((x6 = 0 ∧ n = pb ∧ x5 = nI k) ∨ (x6 = 1 ∧ k = pb ∧ n = pb + 1)) → (n ≤ 20 ∧ pa + n ≤ 48) → v_Model_reassign_126 (nI s) (nI (pl F S pb s)) (nI t) x5 x6 0 ko kl kr fw fl fv fk fp fy fq fi fj kn kz fs ff fm post := by
    intro t et x5 x6 hx hr
    have ht := nr_at et
    have ok' := okL_re ok hs hl ht.2.2 ht.2.1 hk hr
    refine s_mWritesOne hkl (fun e2 => ⟨fun z => absurd rfl z, fun _ => h5 e t et hr e2⟩) (fun e2 => ⟨fun _ => ⟨vp_in_nI hd.2 (by omega), ?_⟩, fun z => absurd z (by decide)⟩)
    rw [nI_clamp (by omega), hfs _ hd.2]
    exact ⟨fun e3 => s_mR151 m ok hv hs hd.2 ht.2.1 hk ok' hx (nl_ge hkl e2) hy (fun e4 => h6 e t et hr e2 e4 0 (Or.inr ⟨e3, rfl⟩)) (fun e4 => h7 e t et hr e2 e4 0 (Or.inr ⟨e3, rfl⟩)), fun e3 => s_mR151 m ok hv hs hd.2 ht.2.1 hk ok' hx (nl_ge hkl e2) hy (fun e4 => h6 e t et hr e2 e4 1 (Or.inl ⟨e3, rfl⟩)) (fun e4 => h7 e t et hr e2 e4 1 (Or.inl ⟨e3, rfl⟩))⟩
  rcases id hk with ⟨k1, k2, k3⟩ | ⟨k1, k2, k3⟩
  · rw [lf_at ok.2.2.2.2.2.1 k1 k2]
    refine ⟨fun _ => ?_, fun z => absurd (nI_pos' (by omega)) z⟩
    cases et : nr (fb sc P pa S pb) (pl F S pb s / 16) 176 16 none 12 with
    | none => exact ⟨fun _ => h3 e (Or.inl et), fun z => absurd (by decide) z⟩
    | some t =>
      have ht := nr_at et
      exact ⟨fun z => absurd z (nI_pos (by omega)), fun _ => ⟨fun _ => G t et _ _ (Or.inl ⟨rfl, k3, rfl⟩) ⟨by omega, by omega⟩, fun z => absurd rfl z⟩⟩
  · rw [lf_none.mpr k3]
    refine ⟨fun z => absurd z (by decide), fun _ => ?_⟩
    cases et : nr (fb sc P pa S pb) (pl F S pb s / 16) 176 16 none 12 with
    | none => exact ⟨fun _ => h3 e (Or.inl et), fun z => absurd (by decide) z⟩
    | some t =>
      have ht := nr_at et
      refine ⟨fun z => absurd z (nI_pos (by omega)), fun _ => ⟨fun z => absurd z (by decide), fun _ => ⟨in04, ?_⟩⟩⟩
      rw [sb_cl0, r0.2.2.1, r0.2.1, nI_add]
      refine pk_eq pb 20 (fun w => h3 e (Or.inr (by omega))) (fun w => ⟨in04, in04, And.symm (pk_eq (pa + pb) 48 (fun w2 => h3 e (Or.inr (by omega))) (fun w2 => ?_))⟩)
      exact G t et _ _ (Or.inr ⟨rfl, k1, k2⟩) ⟨by omega, by omega⟩
end MR
