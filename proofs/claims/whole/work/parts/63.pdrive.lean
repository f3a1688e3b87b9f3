/-! PURE: the drive's private methods -/
/-- how many numbers below s are marked -/
def kt (b : Nat → Bool) : Nat → Nat
  | 0 => 0
  | s + 1 => kt b s + (if b s = true then 1 else 0)
theorem kt_mono (b : Nat → Bool) {s t : Nat} (h : s ≤ t) : kt b s ≤ kt b t := by
  induction h with
  | refl => exact Nat.le_refl _
  | step _ ih => exact Nat.le_trans ih (by simp only [kt]; omega)
theorem kt_lt (b : Nat → Bool) {s t : Nat} (h : s < t) (hs : b s = true) : kt b s < kt b t := by
  have h1 : kt b (s + 1) = kt b s + 1 := by simp only [kt, if_pos hs]
  have h2 := kt_mono b (show s + 1 ≤ t from h)
  omega
theorem kt_inj (b : Nat → Bool) {s t : Nat} (hs : b s = true) (ht : b t = true) (h : kt b s = kt b t) : s = t := by
  rcases Nat.lt_trichotomy s t with g | g | g
  · have := kt_lt b g hs
    omega
  · exact g
  · have := kt_lt b g ht
    omega
theorem kt_surj (b : Nat → Bool) (l : Nat) : ∀ t, l < kt b t → ∃ s, s < t ∧ b s = true ∧ kt b s = l := by
  intro t
  induction t with
  | zero => intro h; simp [kt] at h
  | succ t ih =>
    intro h
    by_cases g : l < kt b t
    · obtain ⟨s, h1, h2, h3⟩ := ih g
      exact ⟨s, by omega, h2, h3⟩
    · by_cases e : b t = true
      · simp only [kt, if_pos e] at h
        exact ⟨t, by omega, e, by omega⟩
      · simp only [kt, if_neg e] at h
        omega
theorem kt_le (b : Nat → Bool) (s : Nat) : kt b s ≤ s := by
  induction s with
  | zero => simp [kt]
  | succ s ih => simp only [kt]; by_cases e : b s = true <;> simp [e] <;> omega
theorem kt_16 (b : Nat → Bool) (hb : ∀ s, s < 16 → b s = false) : ∀ s, s ≤ 16 → kt b s = 0 := by
  intro s
  induction s with
  | zero => intro _; rfl
  | succ s ih =>
    intro h
    simp only [kt, hb s (by omega), ih (by omega)]
    rfl
/-- a format would make s primary -/
def sb (df sc : Nat → Int32) (F : Nat → Nat) (nq s : Nat) : Bool := decide (16 ≤ s) && (decide (df s ≠ 0) || (decide (sc s ≠ 0) || (lf F nq s).isSome))
theorem sb_16 (df sc : Nat → Int32) (F : Nat → Nat) (nq : Nat) : ∀ s, s < 16 → sb df sc F nq s = false := fun s hs => by simp [sb]; omega
theorem s_isSlipped {dn dz : Int32} {df sc sw sl : Nat → Int32} {v c p q : Int32} {f g : Nat → Int32} {ver np nq : Nat} {P F S : Nat → Nat} (r : lsR v p q f g ver np nq P F S) (ok : okL np nq P F S) {s : Nat} (h16 : 16 ≤ s) (hs : s < 192) {post : Int32 → Prop} (h0 : ¬ sb df sc F nq s = true → post 0) (h1 : sb df sc F nq s = true → post 1) : v_DefectDrive_isSlipped dn dz df sc sw sl v c p q f g (nI s) post := by
  unfold v_DefectDrive_isSlipped
  rw [nI_clamp (by omega)]
  have i1 : vp_in (nI s) 192 := vp_in_nI hs (by omega)
  refine ⟨i1, fun a => h1 (by simp [sb, h16, a]), fun a => ⟨i1, fun b => h1 (by simp [sb, h16, b]), fun b => s_pairOfR r ok hs ⟨fun e => h0 ?_, fun e => h1 ?_⟩⟩⟩
  · have hk : ∀ k, lf F nq s = some k → k < 2 ^ 31 := fun k e => by have := (lf_some e).1; have := ok.2.1; omega
    rw [oI_ne hk] at e
    simp [sb, a, b, e]
  · have hk : ∀ k, lf F nq s = some k → k < 2 ^ 31 := fun k e => by have := (lf_some e).1; have := ok.2.1; omega
    rw [oI_ne hk] at e
    cases e2 : lf F nq s with
    | none => exact absurd e2 e
    | some k => simp [sb, h16, e2]
theorem s_countSlipped {dn dz : Int32} {df sc sw sl : Nat → Int32} {v c p q : Int32} {f g : Nat → Int32} {ver np nq : Nat} {P F S : Nat → Nat} (r : lsR v p q f g ver np nq P F S) (ok : okL np nq P F S) {post : Int32 → Prop} (h : post (nI (kt (sb df sc F nq) 192))) : v_DefectDrive_countSlipped dn dz df sc sw sl v c p q f g post := by
  have K : ∀ n i, 16 ≤ i → i ≤ 192 → 192 < i + n → v_DefectDrive_countSlipped_5 dn dz df sc sw sl v c p q f g post n (nI (kt (sb df sc F nq) i)) (nI i) := by
    intro n
    induction n with
    | zero => intro i h1 h2 h3; omega
    | succ n ih =>
      intro i h1 h2 h3
      show vb_DefectDrive_countSlipped_5 dn dz df sc sw sl v c p q f g post (v_DefectDrive_countSlipped_5 dn dz df sc sw sl v c p q f g post n) (nI (kt (sb df sc F nq) i)) (nI i)
      refine pk_le 192 i (fun w => ?_) (fun w => s_isSlipped r ok h1 w (fun e => ⟨fun _ => ?_, fun z => absurd rfl z⟩) (fun e => ⟨fun z => absurd z (by decide), fun _ => ?_⟩))
      · rw [show i = 192 by omega]; exact h
      · show v_DefectDrive_countSlipped_5 _ _ _ _ _ _ _ _ _ _ _ _ _ n _ (nI i + 1)
        have e2 : kt (sb df sc F nq) (i + 1) = kt (sb df sc F nq) i := by simp only [kt, if_neg e]; omega
        rw [nI_1, ← e2]
        exact ih (i + 1) (by omega) (by omega) (by omega)
      · show v_DefectDrive_countSlipped_5 _ _ _ _ _ _ _ _ _ _ _ _ _ n (_ + 1) (nI i + 1)
        have e2 : kt (sb df sc F nq) (i + 1) = kt (sb df sc F nq) i + 1 := by simp only [kt, if_pos e]
        rw [nI_1, nI_1, ← e2]
        exact ih (i + 1) (by omega) (by omega) (by omega)
  have := K 177 16 (by omega) (by omega) (by omega)
  rw [kt_16 _ (sb_16 df sc F nq) 16 (by omega)] at this
  exact ⟨177, this⟩
theorem s_draftSlipped {dn dz : Int32} {df sc sw sl : Nat → Int32} {v c p q : Int32} {f g : Nat → Int32} {ver np nq : Nat} {P F S : Nat → Nat} (r : lsR v p q f g ver np nq P F S) (ok : okL np nq P F S) (hc : kt (sb df sc F nq) 192 ≤ 48) {gv gc gp gq : Int32} {gf gg : Nat → Int32} {post : Int32 → Int32 → Int32 → (Nat → Int32) → (Nat → Int32) → Prop}
    (h : ∀ gf gg : Nat → Int32, (∀ s, s < 192 → sb df sc F nq s = true → gf (kt (sb df sc F nq) s) = nI s) → post (v + 1) (nI (kt (sb df sc F nq) 192)) 0 gf gg) : v_DefectDrive_draftSlipped dn dz df sc sw sl v c p q f g gv gc gp gq gf gg post := by
  have K : ∀ (n i : Nat) (gf gg : Nat → Int32), 16 ≤ i → i ≤ 192 → 192 < i + n → (∀ s, s < i → sb df sc F nq s = true → gf (kt (sb df sc F nq) s) = nI s) → v_DefectDrive_draftSlipped_19 (v + 1) 0 dn dz df sc sw sl v c p q f g gc post n (nI i) (nI (kt (sb df sc F nq) i)) gf gg := by
    intro n
    induction n with
    | zero => intro i gf gg h1 h2 h3; omega
    | succ n ih =>
      intro i gf gg h1 h2 h3 h4
      show vb_DefectDrive_draftSlipped_19 (v + 1) 0 dn dz df sc sw sl v c p q f g gc post (v_DefectDrive_draftSlipped_19 (v + 1) 0 dn dz df sc sw sl v c p q f g gc post n) (nI i) (nI (kt (sb df sc F nq) i)) gf gg
      refine pk_le 192 i (fun w => ?_) (fun w => s_isSlipped r ok h1 w (fun e => ⟨fun _ => ?_, fun z => absurd rfl z⟩) (fun e => ⟨fun z => absurd z (by decide), fun _ => ?_⟩))
      · have e : i = 192 := by omega
        subst e
        exact h gf gg h4
      · show v_DefectDrive_draftSlipped_19 _ _ _ _ _ _ _ _ _ _ _ _ _ _ _ _ n (nI i + 1) _ _ _
        have e2 : kt (sb df sc F nq) (i + 1) = kt (sb df sc F nq) i := by simp only [kt, if_neg e]; omega
        rw [nI_1, ← e2]
        refine ih (i + 1) gf gg (by omega) (by omega) (by omega) (fun s hs e3 => ?_)
        by_cases e4 : s = i
        · rw [e4] at e3; exact absurd e3 e
        · exact h4 s (by omega) e3
      · have e2 : kt (sb df sc F nq) (i + 1) = kt (sb df sc F nq) i + 1 := by simp only [kt, if_pos e]
        have e3 := kt_mono (sb df sc F nq) (show i + 1 ≤ 192 by omega)
        show (48 ≤ nI (kt (sb df sc F nq) i) + 0 → _) ∧ (¬ 48 ≤ nI (kt (sb df sc F nq) i) + 0 → _)
        rw [show nI (kt (sb df sc F nq) i) + 0 = nI (kt (sb df sc F nq) i) from nI_add _ 0]
        refine pk_le 48 (kt (sb df sc F nq) i) (fun z => absurd z (by omega)) (fun _ => ⟨vp_in_nI (by omega) (by omega), vp_in_nI (by omega) (by omega), ?_⟩)
        show v_DefectDrive_draftSlipped_19 _ _ _ _ _ _ _ _ _ _ _ _ _ _ _ _ n (nI i + 1) _ _ _
        rw [nI_clamp (by omega), nI_1, nI_1, ← e2]
        refine ih (i + 1) _ _ (by omega) (by omega) (by omega) (fun s hs e5 => ?_)
        by_cases e4 : s = i
        · rw [e4, pk_us]
        · have := kt_lt (sb df sc F nq) (show s < i by omega) e5
          rw [pk_un (by omega)]
          exact h4 s (by omega) e5
  have := K 177 16 gf gg (by omega) (by omega) (by omega) (fun s hs e => by rw [sb_16 df sc F nq s hs] at e; cases e)
  rw [kt_16 _ (sb_16 df sc F nq) 16 (by omega)] at this
  exact ⟨177, this⟩
/-- the wiping of r sectors from s on: did it end; the power; the words, what is lost -/
def wz (sc : Nat → Int32) : Nat → Nat → Int32 → Int32 → Int32 → (Nat → Int32) → (Nat → Int32) → Int32 × Int32 × Int32 × Int32 × (Nat → Int32) × (Nat → Int32)
  | 0, _, o, l, d, w, x => (1, o, l, d, w, x)
  | r + 1, s, o, l, d, w, x => if sc s = 0 then (if l = 0 then (0, 1, l, d, w, x) else wz sc r (s + 1) o (nl l) (d + 1) (w2 w s) (w2 x s)) else wz sc r (s + 1) o l d w x
theorem s_wipeGood {sc sw sl : Nat → Int32} {dn dz : Int32} {df : Nat → Int32} {ofv ol od : Int32} {post : Int32 → Int32 → Int32 → Int32 → (Nat → Int32) → (Nat → Int32) → Prop} (z : Int32 × Int32 × Int32 × Int32 × (Nat → Int32) × (Nat → Int32)) (hz : wz sc 176 16 ofv ol od sw sl = z) (h : post z.1 z.2.1 z.2.2.1 z.2.2.2.1 z.2.2.2.2.1 z.2.2.2.2.2) : v_DefectDrive_wipeGoodSectors dn dz df ofv ol od sc sw sl post := by
  have K : ∀ (r i : Nat) (o l d : Int32) (w x : Nat → Int32), i + r = 192 → wz sc r i o l d w x = z → v_DefectDrive_wipeGoodSectors_3 sc post (r + 1) (nI i) o l d w x := by
    intro r
    induction r with
    | zero =>
      intro i o l d w x h1 h2
      rw [← h2] at h
      show vb_DefectDrive_wipeGoodSectors_3 sc post _ (nI i) o l d w x
      exact pk_le 192 i (fun _ => h) (fun g => absurd g (by omega))
    | succ r ih =>
      intro i o l d w x h1 h2
      show vb_DefectDrive_wipeGoodSectors_3 sc post (v_DefectDrive_wipeGoodSectors_3 sc post (r + 1)) (nI i) o l d w x
      refine pk_le 192 i (fun g => absurd g (by omega)) (fun g => ⟨vp_in_nI g (by omega), ?_⟩)
      rw [nI_clamp (by omega)]
      simp only [wz] at h2
      refine ⟨fun e => ?_, fun e => s_last (fun e2 => ⟨fun q => absurd rfl q, fun _ => ?_⟩) (fun e2 => ⟨fun _ => s_wipe g ?_, fun q => absurd q (by decide)⟩)⟩
      · show v_DefectDrive_wipeGoodSectors_3 sc post (r + 1) (nI i + 1) o l d w x
        rw [nI_1]
        rw [if_neg e] at h2
        exact ih (i + 1) o l d w x (by omega) h2
      · rw [if_pos e, if_pos e2] at h2
        rw [← h2] at h
        exact h
      · show v_DefectDrive_wipeGoodSectors_3 sc post (r + 1) (nI i + 1) o _ _ _ _
        rw [nI_1]
        rw [if_pos e, if_neg e2] at h2
        exact ih (i + 1) o _ _ _ _ (by omega) h2
  exact ⟨177, K 176 16 ofv ol od sw sl (by omega) hz⟩
/-- a free spare sector -/
def fb (sc : Nat → Int32) (P : Nat → Nat) (np : Nat) (S : Nat → Nat) (nq s : Nat) : Bool := decide (16 ≤ s) && (decide (13 ≤ s % 16) && (decide (sc s = 0) && (!(pr P np s) && (lf S nq s).isNone)))
theorem mapR_spare {ver np nq : Nat} {P F S : Nat → Nat} {mk : Int32} {mo mp ml mi : Nat → Int32} (m : mapR ver np nq P F S mk mo mp ml mi) (ok : okL np nq P F S) (h00 : ver = 0 → nq = 0) {s : Nat} (hs : s < 192) (h13 : 13 ≤ s % 16) : ml s = -1 ↔ lf S nq s = none := by
  obtain ⟨m1, m2, m3, m4, m5⟩ := m
  obtain ⟨o1, o2, oP, oF, oS, iF, iS⟩ := id ok
  cases e : lf S nq s with
  | none =>
    refine ⟨fun _ => rfl, fun _ => m5 s hs (fun t ht hv hl z => ?_)⟩
    have l3 := ((lg_iff P np t).mp hl).2.1
    cases e2 : lf F nq t with
    | none => rw [pl_none e2] at z; omega
    | some j => rw [pl_some e2] at z; exact lf_none.mp e j (lf_some e2).1 z
  | some j =>
    obtain ⟨j1, j2⟩ := lf_some e
    refine ⟨fun q => ?_, fun q => by cases q⟩
    obtain ⟨f1, f2⟩ := oF j j1
    have hv : ver ≠ 0 := fun z => by have := h00 z; omega
    have q2 := m4 (F j) f1 hv f2
    rw [pl_some (lf_at iF j1 rfl), j2, q] at q2
    have q3 := nI_pos (show ct P np (F j) < 2 ^ 31 by have := ct_143 P np f1 f2; omega)
    rw [← q2] at q3
    exact absurd (by decide) q3
theorem s_isFreeSpare {dn dz : Int32} {df sc sw sl : Nat → Int32} {ver np nq : Nat} {P F S : Nat → Nat} {mk : Int32} {mo mp ml mi : Nat → Int32} (m : mapR ver np nq P F S mk mo mp ml mi) (ok : okL np nq P F S) (h00 : ver = 0 → nq = 0) {s : Nat} (hs : s < 192) {post : Int32 → Prop} (h0 : ¬ fb sc P np S nq s = true → post 0) (h1 : fb sc P np S nq s = true → post 1) : v_DefectDrive_isFreeSpare dn dz df sc sw sl mk mo mp ml mi (nI s) post := by
  have i1 : vp_in (nI s) 192 := vp_in_nI hs (by omega)
  refine s_isSpare hs (fun e => ⟨fun _ => h0 ?_, fun z => absurd rfl z⟩) (fun e1 e2 => ⟨fun z => absurd z (by decide), fun _ => ⟨i1, ?_⟩⟩)
  · intro z
    simp only [fb, Bool.and_eq_true, decide_eq_true_eq] at z
    exact e ⟨z.1, z.2.1⟩
  · rw [nI_clamp (by omega)]
    refine ⟨fun e3 => h0 ?_, fun e3 => ⟨i1, fun e4 => h0 ?_, fun e4 => ⟨i1, fun e5 => h0 ?_, fun e5 => h1 ?_⟩⟩⟩
    · simp [fb, e3]
    · rw [m.2.2.1 s hs] at e4
      by_cases w : pr P np s = true
      · simp [fb, w]
      · rw [if_neg w] at e4; exact absurd rfl e4
    · rw [mapR_spare m ok h00 hs e2] at e5
      cases w : lf S nq s with
      | none => exact absurd w e5
      | some j => simp [fb, w]
    · rw [mapR_spare m ok h00 hs e2] at e5
      have w : pr P np s = false := by
        rw [m.2.2.1 s hs] at e4
        by_cases w : pr P np s = true
        · rw [if_pos w] at e4; exact absurd e4 (by decide)
        · simpa using w
      simp [fb, e1, e2, e3, w, e5]
