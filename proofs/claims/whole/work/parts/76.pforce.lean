/-! PURE: the lists that come into force, class and reference -/
def CF (nh ah bh di : Nat) (av ac ap aq : Int32) (af ag : Nat → Int32) (bv bc bp bq : Int32) (bf bg : Nat → Int32) (ve pa pb : Nat) (P F S : Nat → Nat) : Prop :=
  (ve = 0 ∧ di = nh ∧ ac = 0 ∧ bc = 0) ∨ (ve % 2 = 1 ∧ di = ah ∧ lsR av ap aq af ag ve pa pb P F S ∧ ac = 1 ∧ (bc = 0 ∨ ∃ w, w < ve ∧ bv = nI w)) ∨ (ve % 2 = 0 ∧ ve ≠ 0 ∧ di = bh ∧ lsR bv bp bq bf bg ve pa pb P F S ∧ bc = 1 ∧ (ac = 0 ∨ ∃ w, w < ve ∧ av = nI w))
theorem s_wd {nh ah bh di : Nat} {dn dz : Int32} {df : Nat → Int32} {ofv ol od mk : Int32} {mo mp ml mi : Nat → Int32} {gv gc gp gq : Int32} {gf gg : Nat → Int32} {av ac ap aq : Int32} {af ag : Nat → Int32} {bv bc bp bq : Int32} {bf bg : Nat → Int32} {ve pa pb np nq : Nat} {P F S P' F' S' : Nat → Nat} (cf : CF nh ah bh di av ac ap aq af ag bv bc bp bq bf bg ve pa pb P F S) (hv : ve + 1 < 2 ^ 31) (r : lsR gv gp gq gf gg (ve + 1) np nq P' F' S') (ok : okL np nq P' F' S') {post : Int32 → Nat → Int32 → Int32 → Int32 → Int32 → (Nat → Int32) → (Nat → Int32) → (Nat → Int32) → (Nat → Int32) → Int32 → Int32 → Int32 → Int32 → (Nat → Int32) → (Nat → Int32) → Int32 → Int32 → Int32 → Int32 → (Nat → Int32) → (Nat → Int32) → Prop} (z : Int32 × Int32 × Int32 × Int32) (hz : wk (pt (np + nq) + 2) ofv ol od = z)
    (hfail : z.1 = 0 → ∀ (av ac ap aq : Int32) (af ag : Nat → Int32) (bv bc bp bq : Int32) (bf bg : Nat → Int32), CF nh ah bh di av ac ap aq af ag bv bc bp bq bf bg ve pa pb P F S → post 0 di z.2.1 z.2.2.1 z.2.2.2 mk mo mp ml mi av ac ap aq af ag bv bc bp bq bf bg)
    (hok : z.1 = 1 → ∀ (di : Nat) (mk : Int32) (mo mp ml mi : Nat → Int32) (av ac ap aq : Int32) (af ag : Nat → Int32) (bv bc bp bq : Int32) (bf bg : Nat → Int32), mapR (ve + 1) np nq P' F' S' mk mo mp ml mi → CF nh ah bh di av ac ap aq af ag bv bc bp bq bf bg (ve + 1) np nq P' F' S' → post 1 di z.2.1 z.2.2.1 z.2.2.2 mk mo mp ml mi av ac ap aq af ag bv bc bp bq bf bg) :
    v_DefectDrive_writeDraft ah bh di dn dz df ofv ol od mk mo mp ml mi gv gc gp gq gf gg av ac ap aq af ag bv bc bp bq bf bg post := by
  have hgv : gv = nI (ve + 1) := r.1
  rcases cf with ⟨h1, h2, h3, h4⟩ | ⟨h1, h2, h3, h4, h5⟩ | ⟨h1, h2, h3, h4, h5, h6⟩
  · refine s_wdA r ok hv (by omega) (by omega) z hz (fun e tv tc tp tq tf tg q => hfail e _ _ _ _ _ _ _ _ _ _ _ _ (Or.inl ⟨h1, h2, ?_, h4⟩)) (fun e mk mo mp ml mi tf tg m q => hok e _ _ _ _ _ _ _ _ _ _ _ _ _ _ _ _ _ _ m (Or.inr (Or.inl ⟨by omega, rfl, q, rfl, Or.inl h4⟩)))
    rcases q with q | q
    · rw [q.2.1]; exact h3
    · exact q
  · refine s_wdB r ok hv (by omega) (by omega) z hz (fun e tv tc tp tq tf tg q => hfail e _ _ _ _ _ _ _ _ _ _ _ _ (Or.inr (Or.inl ⟨h1, h2, h3, h4, ?_⟩))) (fun e mk mo mp ml mi tf tg m q => hok e _ _ _ _ _ _ _ _ _ _ _ _ _ _ _ _ _ _ m (Or.inr (Or.inr ⟨by omega, by omega, rfl, q, rfl, Or.inr ⟨ve, by omega, h3.1⟩⟩)))
    rcases q with q | q
    · rw [q.1, q.2.1]; exact h5
    · exact Or.inl q
  · refine s_wdA r ok hv (by omega) (by omega) z hz (fun e tv tc tp tq tf tg q => hfail e _ _ _ _ _ _ _ _ _ _ _ _ (Or.inr (Or.inr ⟨h1, h2, h3, h4, h5, ?_⟩))) (fun e mk mo mp ml mi tf tg m q => hok e _ _ _ _ _ _ _ _ _ _ _ _ _ _ _ _ _ _ m (Or.inr (Or.inl ⟨by omega, rfl, q, rfl, Or.inr ⟨ve, by omega, h4.1⟩⟩)))
    rcases q with q | q
    · rw [q.1, q.2.1]; exact h6
    · exact Or.inl q
def MF (fv fk fp fy fq fi fj : Nat → Int32) (ve pa pb : Nat) (P F S : Nat → Nat) : Prop :=
  rwR fv fp fy fq fi fj 0 ve pa pb P F S ∧ (ve = 0 → fk 1 = 0 ∧ fk 2 = 0) ∧
  (ve ≠ 0 → rwR fv fp fy fq fi fj (rc ve) ve pa pb P F S ∧ fk (rc ve) = 1 ∧ ∀ d, (d = 1 ∨ d = 2) → d ≠ rc ve → (fk d = 0 ∨ ∃ w, w < ve ∧ fv d = nI w))
def Pv (fv fp fy fq fi fj fv' fp' fy' fq' fi' fj' : Nat → Int32) : Prop := ∀ c, c < 3 → fv' c = fv c ∧ ∀ ver np nq P F S, np ≤ 48 → nq ≤ 20 → rwR fv fp fy fq fi fj c ver np nq P F S → rwR fv' fp' fy' fq' fi' fj' c ver np nq P F S
theorem MF_pv {fv fk fp fy fq fi fj fv' fp' fy' fq' fi' fj' : Nat → Int32} {ve pa pb : Nat} {P F S : Nat → Nat} (h : MF fv fk fp fy fq fi fj ve pa pb P F S) (ok : okL pa pb P F S) (v : Pv fv fp fy fq fi fj fv' fp' fy' fq' fi' fj') : MF fv' fk fp' fy' fq' fi' fj' ve pa pb P F S := by
  obtain ⟨h1, h2, h3⟩ := h
  have o1 := ok.1
  refine ⟨(v 0 (by omega)).2 _ _ _ _ _ _ (by omega) ok.2.1 h1, h2, fun e => ?_⟩
  obtain ⟨k1, k2, k3⟩ := h3 e
  have hrc := rc_12 ve
  refine ⟨(v (rc ve) (by omega)).2 _ _ _ _ _ _ (by omega) ok.2.1 k1, k2, fun d d1 d2 => ?_⟩
  rw [(v d (by omega)).1]
  exact k3 d d1 d2
theorem rc_ne (ve : Nat) : rc (ve + 1) ≠ rc ve := by
  unfold rc
  by_cases h : ve % 2 = 1
  · rw [if_pos h, if_neg (by omega)]; omega
  · rw [if_neg h, if_pos (by omega)]; omega
theorem s_mwl {kc kn kz ko kt kr : Int32} {fw fl fs ff fv fk fp fy fq fi fj fm : Nat → Int32} {ve pa pb np nq : Nat} {P F S P' F' S' : Nat → Nat} (m : MF fv fk fp fy fq fi fj ve pa pb P F S) (hl : (-1 : Int32) ≤ kt) (r : rwR fv fp fy fq fi fj 3 (ve + 1) np nq P' F' S') (ok : okL np nq P' F' S') (hv : ve + 1 < 2 ^ 31) {post : Int32 → Int32 → Int32 → Int32 → (Nat → Int32) → (Nat → Int32) → (Nat → Int32) → (Nat → Int32) → (Nat → Int32) → (Nat → Int32) → (Nat → Int32) → Prop} (z : Int32 × Int32 × Int32 × Int32) (hz : wk (pt (np + nq) + 2) ko kt kr = z)
    (hfail : z.1 = 0 → ∀ fv' fk' : Nat → Int32, MF fv' fk' fp fy fq fi fj ve pa pb P F S → post 0 z.2.1 z.2.2.1 z.2.2.2 fv' fk' fp fy fq fi fj)
    (hok : z.1 = 1 → ∀ fv' fk' fp' fy' fq' fi' fj' : Nat → Int32, MF fv' fk' fp' fy' fq' fi' fj' (ve + 1) np nq P' F' S' → post 1 z.2.1 z.2.2.1 z.2.2.2 fv' fk' fp' fy' fq' fi' fj') :
    v_Model_writesLists kc kn kz ko kt kr fw fl fs ff fv fk fp fy fq fi fj fm post := by
  have hrc := rc_12 (ve + 1)
  have hrn := rc_ne ve
  have hr0 := rc_12 ve
  obtain ⟨m1, m2, m3⟩ := m
  refine s_mWritesLists hl r ok.1 ok.2.1 hv z hz (fun e fv' fk' q => hfail e _ _ ?_) (fun e fv' fk' fp' fy' fq' fi' fj' q1 q2 q3 q4 q5 => hok e _ _ _ _ _ _ _ ⟨q1, fun w => absurd w (by omega), fun _ => ⟨q2, q3, fun d d1 d2 => ?_⟩⟩)
  · rcases q with ⟨rfl, rfl⟩ | ⟨rfl, rfl⟩
    · exact ⟨m1, m2, m3⟩
    · refine ⟨⟨by rw [pk_un (by omega)]; exact m1.1, m1.2⟩, fun w => ?_, fun w => ?_⟩
      · obtain ⟨a, b⟩ := m2 w
        constructor
        · by_cases e1 : 1 = rc (ve + 1)
          · rw [← e1, pk_us]
          · rw [pk_un e1]; exact a
        · by_cases e1 : 2 = rc (ve + 1)
          · rw [← e1, pk_us]
          · rw [pk_un e1]; exact b
      · obtain ⟨k1, k2, k3⟩ := m3 w
        refine ⟨⟨by rw [pk_un hrn.symm]; exact k1.1, k1.2⟩, by rw [pk_un hrn.symm]; exact k2, fun d d1 d2 => ?_⟩
        have : d = rc (ve + 1) := by omega
        rw [this, pk_us]
        exact Or.inl rfl
  · rw [q4 d (by omega) d2, q5 d (by omega) d2 (by omega)]
    by_cases w : ve = 0
    · obtain ⟨a, b⟩ := m2 w
      rcases d1 with rfl | rfl
      · exact Or.inl a
      · exact Or.inl b
    · obtain ⟨k1, k2, k3⟩ := m3 w
      have : d = rc ve := by omega
      rw [this]
      exact Or.inr ⟨ve, by omega, k1.1⟩
/-- wiping, twice -/
theorem wz_rel (sc : Nat → Int32) : ∀ (r s : Nat) (o l d : Int32) (w x w' x' : Nat → Int32), (∀ i, i < 384 → x' i = x i) → (∀ i, i < 384 → x i = 0 → w' i = w i) → (∀ i, i < 384 → x i = 0 ∨ x i = 1) → (-1 : Int32) ≤ l → (o = 0 ∨ o = 1) →
    ∃ (b o1 l1 d1 : Int32) (w1 x1 w1' x1' : Nat → Int32), wz sc r s o l d w x = (b, o1, l1, d1, w1, x1) ∧ wz sc r s o l d w' x' = (b, o1, l1, d1, w1', x1') ∧ (b = 0 ∨ b = 1) ∧ (∀ i, i < 384 → x1' i = x1 i) ∧ (∀ i, i < 384 → x1 i = 0 → w1' i = w1 i) ∧ (∀ i, i < 384 → x1 i = 0 ∨ x1 i = 1) ∧ (-1 : Int32) ≤ l1 ∧ (o1 = 0 ∨ o1 = 1) ∧ (b = 1 → o1 = o) := by
  intro r
  induction r with
  | zero =>
    intro s o l d w x w' x' h1 h2 h3 h4 h5
    exact ⟨1, o, l, d, w, x, w', x', rfl, rfl, Or.inr rfl, h1, h2, h3, h4, h5, fun _ => rfl⟩
  | succ r ih =>
    intro s o l d w x w' x' h1 h2 h3 h4 h5
    simp only [wz]
    by_cases e : sc s = 0
    · by_cases e2 : l = 0
      · rw [if_pos e, if_pos e2, if_pos e, if_pos e2]
        exact ⟨0, 1, l, d, w, x, w', x', rfl, rfl, Or.inl rfl, h1, h2, h3, h4, Or.inr rfl, fun z => absurd z (by decide)⟩
      · rw [if_pos e, if_neg e2, if_pos e, if_neg e2]
        exact ih (s + 1) o (nl l) (d + 1) (w2 w s) (w2 x s) (w2 w' s) (w2 x' s) (upd_of (upd_of h1)) (upd_w (upd_w h2)) (upd_P (p := fun y => y = 0 ∨ y = 1) (upd_P (p := fun y => y = 0 ∨ y = 1) h3 (Or.inl rfl)) (Or.inl rfl)) (nl_ge h4 e2) h5
    · rw [if_neg e, if_neg e]
      exact ih (s + 1) o l d w x w' x' h1 h2 h3 h4 h5
theorem wk_rel : ∀ (k : Nat) (o l d : Int32), (-1 : Int32) ≤ l → (o = 0 ∨ o = 1) → ∃ (b o1 l1 d1 : Int32), wk k o l d = (b, o1, l1, d1) ∧ (b = 0 ∨ b = 1) ∧ (-1 : Int32) ≤ l1 ∧ (o1 = 0 ∨ o1 = 1) := by
  intro k
  induction k with
  | zero => intro o l d h1 h2; exact ⟨1, o, l, d, rfl, Or.inr rfl, h1, h2⟩
  | succ k ih =>
    intro o l d h1 h2
    simp only [wk]
    by_cases e : l = 0
    · rw [if_pos e]; exact ⟨0, 1, l, d, rfl, Or.inl rfl, h1, Or.inr rfl⟩
    · rw [if_neg e]; exact ih o (nl l) (d + 1) (nl_ge h1 e) h2
/-- the slipped ones in a row -/
theorem ks_ex (b : Nat → Bool) : ∀ t, ∃ P : Nat → Nat, ∀ s, s < t → b s = true → P (kt b s) = s := by
  intro t
  induction t with
  | zero => exact ⟨fun _ => 0, fun s hs => absurd hs (by omega)⟩
  | succ t ih =>
    obtain ⟨P, h⟩ := ih
    refine ⟨fun k => if k = kt b t then t else P k, fun s hs hb => ?_⟩
    by_cases e : s = t
    · subst e; exact if_pos rfl
    · have := kt_lt b (show s < t by omega) hb
      show (if kt b s = kt b t then t else P (kt b s)) = s
      rw [if_neg (by omega)]
      exact h s (by omega) hb
theorem okL_ks {b : Nat → Bool} {P F S : Nat → Nat} (hb : ∀ s, b s = true → 16 ≤ s) (h : ∀ s, s < 192 → b s = true → P (kt b s) = s) (hc : kt b 192 ≤ 48) : okL (kt b 192) 0 P F S := by
  refine ⟨by omega, by omega, fun k hk => ?_, fun k hk => absurd hk (by omega), fun k hk => absurd hk (by omega), fun a c ha => absurd ha (by omega), fun a c ha => absurd ha (by omega)⟩
  obtain ⟨s, s1, s2, s3⟩ := kt_surj b k 192 hk
  have := h s s1 s2
  rw [s3] at this
  rw [this]
  exact ⟨hb s s2, s1⟩
theorem sb_ge {df sc : Nat → Int32} {F : Nat → Nat} {nq s : Nat} (h : sb df sc F nq s = true) : 16 ≤ s := by
  apply Nat.le_of_not_lt
  intro w
  rw [sb_16 df sc F nq s w] at h
  cases h
