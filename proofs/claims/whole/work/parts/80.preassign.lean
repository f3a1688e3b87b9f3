/-! PURE: reassigning, the lists -/
def hkP (F : Nat → Nat) (pb s k n : Nat) : Prop := (k < pb ∧ F k = s ∧ n = pb) ∨ (k = pb ∧ n = pb + 1 ∧ ∀ a, a < pb → F a ≠ s)
theorem hk_ex (F : Nat → Nat) (pb s : Nat) : ∃ k n, hkP F pb s k n := by
  cases e : lf F pb s with
  | none => exact ⟨pb, pb + 1, Or.inr ⟨rfl, rfl, lf_none.mp e⟩⟩
  | some k => exact ⟨k, pb, Or.inl ⟨(lf_some e).1, (lf_some e).2, rfl⟩⟩
theorem okL_re {pa pb s t k n : Nat} {P F S : Nat → Nat} {sc : Nat → Int32} (ok : okL pa pb P F S) (hs : s < 192) (hl : lg P pa s = true) (ht : fb sc P pa S pb t = true) (ht2 : t < 192) (hk : hkP F pb s k n) (hr : n ≤ 20 ∧ pa + n ≤ 48) : okL pa n P (fun a => if a = k then s else F a) (fun a => if a = k then t else S a) := by
  obtain ⟨o1, o2, o3, o4, o5, o6, o7⟩ := ok
  have hf := fb_13 ht
  have hpr : pr P pa t = false ∧ lf S pb t = none := by
    simp only [fb, Bool.and_eq_true, Bool.not_eq_true', Option.isNone_iff_eq_none] at ht
    exact ⟨ht.2.2.2.1, ht.2.2.2.2⟩
  have hS := lf_none.mp hpr.2
  have hn : ∀ a, a < n → a ≠ k → a < pb := fun a ha hne => by rcases hk with h | h <;> omega
  have hF : ∀ a, a < n → a ≠ k → F a ≠ s := fun a ha hne e => by
    rcases hk with ⟨h1, h2, h3⟩ | ⟨h1, h2, h3⟩
    · exact hne (o6 a k (by omega) h1 (e.trans h2.symm))
    · exact h3 a (by omega) e
  refine ⟨hr.2, hr.1, o3, fun a ha => ?_, fun a ha => ?_, fun a b ha hb e => ?_, fun a b ha hb e => ?_⟩
  · show (if a = k then s else F a) < 192 ∧ lg P pa (if a = k then s else F a) = true
    by_cases e : a = k
    · rw [if_pos e]; exact ⟨hs, hl⟩
    · rw [if_neg e]; exact o4 a (hn a ha e)
  · show 16 ≤ (if a = k then t else S a) ∧ (if a = k then t else S a) < 192 ∧ 13 ≤ (if a = k then t else S a) % 16 ∧ pr P pa (if a = k then t else S a) = false
    by_cases e : a = k
    · rw [if_pos e]; exact ⟨hf.1, ht2, hf.2, hpr.1⟩
    · rw [if_neg e]; exact o5 a (hn a ha e)
  · change (if a = k then s else F a) = (if b = k then s else F b) at e
    by_cases ea : a = k
    · by_cases eb : b = k
      · rw [ea, eb]
      · rw [if_pos ea, if_neg eb] at e
        exact absurd e.symm (hF b hb eb)
    · by_cases eb : b = k
      · rw [if_neg ea, if_pos eb] at e
        exact absurd e (hF a ha ea)
      · rw [if_neg ea, if_neg eb] at e
        exact o6 a b (hn a ha ea) (hn b hb eb) e
  · change (if a = k then t else S a) = (if b = k then t else S b) at e
    by_cases ea : a = k
    · by_cases eb : b = k
      · rw [ea, eb]
      · rw [if_pos ea, if_neg eb] at e
        exact absurd e.symm (hS b (hn b hb eb))
    · by_cases eb : b = k
      · rw [if_neg ea, if_pos eb] at e
        exact absurd e (hS a (hn a ha ea))
      · rw [if_neg ea, if_neg eb] at e
        exact o7 a b (hn a ha ea) (hn b hb eb) e
theorem oI_m1 {k : Nat} (h : k < 2 ^ 31) : ¬ oI (some k) = -1 := fun z => by
  have := (oI_ne (o := some k) (fun j e => by cases e; exact h)).mp z
  cases this
theorem s_hasRoom {xv xc xp xq : Int32} {xf xg : Nat → Int32} {ver pa pb s k n : Nat} {P F S : Nat → Nat} (r : lsR xv xp xq xf xg ver pa pb P F S) (ok : okL pa pb P F S) (hs : s < 192) (hk : hkP F pb s k n) {post : Int32 → Prop} (h0 : ¬ (n ≤ 20 ∧ pa + n ≤ 48) → post 0) (h1 : (n ≤ 20 ∧ pa + n ≤ 48) → post 1) : v_Lists_hasRoomForPairOf xv xc xp xq xf xg (nI s) post := by
  have o1 := ok.1
  have o2 := ok.2.1
  refine s_pairOfR r ok hs ?_
  rcases hk with ⟨k1, k2, k3⟩ | ⟨k1, k2, k3⟩
  · rw [lf_at ok.2.2.2.2.2.1 k1 k2]
    exact ⟨fun _ => h1 ⟨by omega, by omega⟩, fun z => absurd z (oI_m1 (by omega))⟩
  · rw [lf_none.mpr k3]
    refine ⟨fun z => absurd rfl z, fun _ => ?_⟩
    obtain ⟨-, rfl, rfl, -, -⟩ := r
    refine pk_le 20 pb (fun w => h0 (by omega)) (fun w => ?_)
    show (48 ≤ nI pa + nI pb → post 0) ∧ (¬ 48 ≤ nI pa + nI pb → post 1)
    rw [nI_add]
    exact pk_le 48 (pa + pb) (fun w2 => h0 (by omega)) (fun w2 => h1 ⟨by omega, by omega⟩)
theorem s_becomeWithPair {xv xc xp xq : Int32} {xf xg : Nat → Int32} {gv gc gp gq : Int32} {gf gg : Nat → Int32} {ver pa pb s t k n : Nat} {P F S : Nat → Nat} (r : lsR xv xp xq xf xg ver pa pb P F S) (ok : okL pa pb P F S) (hs : s < 192) (hk : hkP F pb s k n) (hr : n ≤ 20 ∧ pa + n ≤ 48) {post : Int32 → Int32 → Int32 → (Nat → Int32) → (Nat → Int32) → Prop}
    (h : ∀ (gv gp gq : Int32) (gf gg : Nat → Int32), lsR gv gp gq gf gg (ver + 1) pa n P (fun a => if a = k then s else F a) (fun a => if a = k then t else S a) → post gv gp gq gf gg) : v_Lists_becomeWithPair gv gc gp gq gf gg xv xc xp xq xf xg (nI s) (nI t) post := by
  have o1 := ok.1
  have o2 := ok.2.1
  have r' : lsR (xv + 1) xp xq (va_cpy xf gf 0 0 48) (va_cpy xg gg 0 0 48) (ver + 1) pa pb P F S := by
    obtain ⟨rfl, rfl, rfl, r1, r2⟩ := r
    refine ⟨nI_1 _, rfl, rfl, fun a ha => ?_, fun a ha => ?_⟩
    · rw [pk_cpy_in (by omega) (by omega), Nat.zero_add, Nat.sub_zero]; exact r1 a ha
    · rw [pk_cpy_in (by omega) (by omega), pk_cpy_in (by omega) (by omega), Nat.zero_add, Nat.sub_zero]; exact r2 a ha
  unfold v_Lists_becomeWithPair
  generalize va_cpy xf gf 0 0 48 = cf at r' ⊢
  generalize va_cpy xg gg 0 0 48 = cg at r' ⊢
  refine s_pairOfR r' ok hs ?_
  obtain ⟨q0, q1, q2, q3, q4⟩ := id r'
  rcases hk with ⟨k1, k2, k3⟩ | ⟨k1, k2, k3⟩
  · rw [lf_at ok.2.2.2.2.2.1 k1 k2]
    refine ⟨fun z => absurd z (oI_m1 (by omega)), fun _ => ?_⟩
    show vp_in (xp + nI k) 48 ∧ post (xv + 1) xp xq cf (upd cg (xp + nI k).toNatClampNeg (nI t))
    rw [q1, nI_add, nI_clamp (by omega)]
    refine ⟨vp_in_nI (by omega) (by omega), h _ _ _ _ _ ⟨q0, rfl, by rw [k3]; exact q2, q3, fun a ha => ?_⟩⟩
    show cf (pa + a) = nI (if a = k then s else F a) ∧ upd cg (pa + k) (nI t) (pa + a) = nI (if a = k then t else S a)
    have := q4 a (by omega)
    by_cases e : a = k
    · rw [if_pos e, if_pos e, e, pk_us, ← k2]
      rw [e] at this
      exact ⟨this.1, rfl⟩
    · rw [if_neg e, if_neg e, pk_un (by omega)]
      exact this
  · rw [lf_none.mpr k3]
    refine ⟨fun _ => ?_, fun z => absurd rfl z⟩
    show (48 ≤ xp + xq → _) ∧ (¬ 48 ≤ xp + xq → vp_in (xp + xq) 48 ∧ vp_in (xp + xq) 48 ∧ post (xv + 1) xp (xq + 1) (upd cf (xp + xq).toNatClampNeg (nI s)) (upd cg (xp + xq).toNatClampNeg (nI t)))
    rw [q1, q2, nI_add, nI_1, nI_clamp (by omega)]
    refine pk_le 48 (pa + pb) (fun w => absurd w (by omega)) (fun w => ⟨vp_in_nI (by omega) (by omega), vp_in_nI (by omega) (by omega), h _ _ _ _ _ ⟨q0, rfl, by rw [k2], fun a ha => by rw [pk_un (by omega)]; exact q3 a ha, fun a ha => ?_⟩⟩)
    show upd cf (pa + pb) (nI s) (pa + a) = nI (if a = k then s else F a) ∧ upd cg (pa + pb) (nI t) (pa + a) = nI (if a = k then t else S a)
    by_cases e : a = k
    · rw [if_pos e, if_pos e, e, k1, pk_us, pk_us]
      exact ⟨rfl, rfl⟩
    · rw [if_neg e, if_neg e, pk_un (by omega), pk_un (by omega)]
      exact q4 a (by omega)
