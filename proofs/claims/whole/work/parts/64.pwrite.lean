/-! PURE: the nearest spare sector; the writing of the lists -/
/-- how far s is from the cylinder c -/
def ds (s c : Nat) : Nat := if c ≤ s / 16 then s / 16 - c else c - s / 16
def nr (b : Nat → Bool) (c : Nat) : Nat → Nat → Option Nat → Nat → Option Nat
  | 0, _, best, _ => best
  | r + 1, s, best, least => if ds s c < least ∧ b s = true then nr b c r (s + 1) (some s) (ds s c) else nr b c r (s + 1) best least
theorem ds_lt {s c : Nat} (hs : s < 192) (hc : c < 12) : ds s c < 12 := by
  unfold ds
  by_cases h : c ≤ s / 16
  · rw [if_pos h]; omega
  · rw [if_neg h]; omega
theorem nr_eq (b : Nat → Bool) {c : Nat} (hc : c < 12) : ∀ (r s : Nat), s + r = 192 → nr b c r s none 100 = nr b c r s none 12 := by
  intro r
  induction r with
  | zero => intro s _; rfl
  | succ r ih =>
    intro s h
    have h1 := ds_lt (show s < 192 by omega) hc
    simp only [nr]
    by_cases e : b s = true
    · rw [if_pos ⟨by omega, e⟩, if_pos ⟨h1, e⟩]
    · rw [if_neg (fun z => e z.2), if_neg (fun z => e z.2)]
      exact ih (s + 1) (by omega)
theorem nr_some (b : Nat → Bool) (c : Nat) : ∀ (r s : Nat) (best : Option Nat) (least t : Nat), nr b c r s best least = some t → best = some t ∨ (s ≤ t ∧ t < s + r ∧ b t = true) := by
  intro r
  induction r with
  | zero => intro s best least t h; exact Or.inl h
  | succ r ih =>
    intro s best least t h
    simp only [nr] at h
    by_cases e : ds s c < least ∧ b s = true
    · rw [if_pos e] at h
      rcases ih (s + 1) (some s) _ t h with g | ⟨g1, g2, g3⟩
      · cases g; exact Or.inr ⟨by omega, by omega, e.2⟩
      · exact Or.inr ⟨by omega, by omega, g3⟩
    · rw [if_neg e] at h
      rcases ih (s + 1) best _ t h with g | ⟨g1, g2, g3⟩
      · exact Or.inl g
      · exact Or.inr ⟨by omega, by omega, g3⟩
theorem abs_ds {s c : Nat} (hs : s < 192) (hc : c < 12) : (if 0 ≤ nI (s / 16) - nI c then nI (s / 16) - nI c else 0 - (nI (s / 16) - nI c)) = nI (ds s c) := by
  unfold ds
  by_cases h : c ≤ s / 16
  · rw [if_pos h, pk_sub h, if_pos (nI_pos' (by omega))]
  · rw [if_neg h, if_neg]
    · have e : nI (s / 16) - nI c = -(nI c - nI (s / 16)) := by rw [Int32.neg_sub]
      rw [e, Int32.zero_sub, Int32.neg_neg, pk_sub (by omega)]
    · intro z
      exact absurd (pk_sneg (a := s / 16) (b := c) (by omega) (by omega)) (Int32.not_lt.mpr z)
theorem s_nearest {dn dz : Int32} {df sc sw sl : Nat → Int32} {ver np nq : Nat} {P F S : Nat → Nat} {mk : Int32} {mo mp ml mi : Nat → Int32} (m : mapR ver np nq P F S mk mo mp ml mi) (ok : okL np nq P F S) (h00 : ver = 0 → nq = 0) {p : Nat} (hp : p < 192) {post : Int32 → Prop} (h : post (oI (nr (fb sc P np S nq) (p / 16) 176 16 none 12))) : v_DefectDrive_nearestFreeSpare dn dz df sc sw sl mk mo mp ml mi (nI p) post := by
  obtain ⟨z, hz⟩ : ∃ z, nr (fb sc P np S nq) (p / 16) 176 16 none 12 = z := ⟨_, rfl⟩
  rw [hz] at h
  have K : ∀ (r i : Nat) (best : Option Nat) (least : Nat), i + r = 192 → least ≤ 12 → nr (fb sc P np S nq) (p / 16) r i best least = z → v_DefectDrive_nearestFreeSpare_9 dn dz df sc sw sl mk mo mp ml mi (nI p) post (r + 1) (oI best) (nI least) (nI i) := by
    intro r
    induction r with
    | zero =>
      intro i best least h1 h2 h3
      rw [← h3] at h
      show vb_DefectDrive_nearestFreeSpare_9 dn dz df sc sw sl mk mo mp ml mi (nI p) post _ (oI best) (nI least) (nI i)
      exact pk_le 192 i (fun _ => h) (fun g => absurd g (by omega))
    | succ r ih =>
      intro i best least h1 h2 h3
      show vb_DefectDrive_nearestFreeSpare_9 dn dz df sc sw sl mk mo mp ml mi (nI p) post (v_DefectDrive_nearestFreeSpare_9 dn dz df sc sw sl mk mo mp ml mi (nI p) post (r + 1)) (oI best) (nI least) (nI i)
      refine pk_le 192 i (fun g => absurd g (by omega)) (fun g => s_cylinderOf g (s_cylinderOf hp ?_))
      have hd := ds_lt g (show p / 16 < 12 by omega)
      rw [abs_ds g (by omega)]
      simp only [nr] at h3
      have skip : ¬ (ds i (p / 16) < least ∧ fb sc P np S nq i = true) → v_DefectDrive_nearestFreeSpare_53 (v_DefectDrive_nearestFreeSpare_9 dn dz df sc sw sl mk mo mp ml mi (nI p) post (r + 1)) (oI best) (nI least) (nI i) := by
        intro e
        show v_DefectDrive_nearestFreeSpare_9 dn dz df sc sw sl mk mo mp ml mi (nI p) post (r + 1) (oI best) (nI least) (nI i + 1)
        rw [nI_1]
        rw [if_neg e] at h3
        exact ih (i + 1) best least (by omega) h2 h3
      refine pk_le least (ds i (p / 16)) (fun e => skip (fun z => by omega)) (fun e => s_isFreeSpare m ok h00 g (fun e2 => ⟨fun _ => skip (fun z => e2 z.2), fun z => absurd rfl z⟩) (fun e2 => ⟨fun z => absurd z (by decide), fun _ => ?_⟩))
      show v_DefectDrive_nearestFreeSpare_9 dn dz df sc sw sl mk mo mp ml mi (nI p) post (r + 1) (nI i) (nI (ds i (p / 16))) (nI i + 1)
      rw [nI_1]
      rw [if_pos ⟨e, e2⟩] at h3
      exact ih (i + 1) (some i) _ (by omega) (by omega) h3
  exact ⟨177, K 176 16 none 12 (by omega) (by omega) hz⟩
/-- k writes one behind another: did they end; the power -/
def wk : Nat → Int32 → Int32 → Int32 → Int32 × Int32 × Int32 × Int32
  | 0, o, l, d => (1, o, l, d)
  | k + 1, o, l, d => if l = 0 then (0, 1, l, d) else wk k o (nl l) (d + 1)
theorem wk_01 : ∀ (k : Nat) (o l d : Int32), (wk k o l d).1 = 0 ∨ (wk k o l d).1 = 1 := by
  intro k
  induction k with
  | zero => intro o l d; exact Or.inr rfl
  | succ k ih =>
    intro o l d
    simp only [wk]
    by_cases e : l = 0
    · rw [if_pos e]; exact Or.inl rfl
    · rw [if_neg e]; exact ih _ _ _
theorem s_takePart {av ac ap aq : Int32} {af ag : Nat → Int32} {bv bc : Int32} {n m : Nat} {bf bg : Nat → Int32} {e : Nat} (hn : n + m ≤ 48) (he : e ≤ n + m) {post : (Nat → Int32) → (Nat → Int32) → Prop} (hc : ∀ k, k < e → af k = bf k ∧ ag k = bg k) (h : ∀ af ag : Nat → Int32, (∀ k, k < e + 8 → k < n + m → af k = bf k ∧ ag k = bg k) → post af ag) : v_Lists_takePart av ac ap aq af ag bv bc (nI n) (nI m) bf bg (nI e) post := by
  show ∃ j, v_Lists_takePart_15 (if nI n + nI m < nI e + 8 then nI n + nI m else nI e + 8) bf bg post j (nI e) af ag
  have e8 : nI e + 8 = nI (e + 8) := nI_add e 8
  obtain ⟨t, ht, ht1, ht2⟩ : ∃ t, (if nI n + nI m < nI e + 8 then nI n + nI m else nI e + 8) = nI t ∧ t ≤ n + m ∧ (t = n + m ∨ t = e + 8) := by
    rw [e8, nI_add]
    by_cases w : n + m < e + 8
    · rw [if_pos (nI_lt w (by omega))]; exact ⟨_, rfl, by omega, Or.inl rfl⟩
    · rw [if_neg (nI_nlt (by omega) (by omega))]; exact ⟨_, rfl, by omega, Or.inr rfl⟩
  rw [ht]
  have K : ∀ (j i : Nat) (af ag : Nat → Int32), i ≤ t → t < i + j → (∀ k, k < i → af k = bf k ∧ ag k = bg k) → v_Lists_takePart_15 (nI t) bf bg post j (nI i) af ag := by
    intro j
    induction j with
    | zero => intro i af ag h1 h2; omega
    | succ j ih =>
      intro i af ag h1 h2 h3
      show vb_Lists_takePart_15 (nI t) bf bg post (v_Lists_takePart_15 (nI t) bf bg post j) (nI i) af ag
      refine pk_le t i (fun w => h af ag (fun k hk hk2 => h3 k (by omega))) (fun w => ?_)
      have i1 : vp_in (nI i) 48 := vp_in_nI (by omega) (by omega)
      refine ⟨i1, i1, i1, i1, ?_⟩
      rw [nI_clamp (by omega), nI_1]
      refine ih (i + 1) _ _ (by omega) (by omega) (fun k hk => ?_)
      by_cases e2 : k = i
      · rw [e2, pk_us, pk_us]; exact ⟨rfl, rfl⟩
      · rw [pk_un e2, pk_un e2]; exact h3 k (by omega)
  by_cases w : e ≤ t
  · exact ⟨t + 1, K (t + 1) e af ag w (by omega) hc⟩
  · refine ⟨1, ?_⟩
    show vb_Lists_takePart_15 (nI t) bf bg post _ (nI e) af ag
    exact pk_le t e (fun _ => h af ag (fun k hk hk2 => hc k (by omega))) (fun z => absurd z (by omega))
theorem lsR_of {v p q : Int32} {f g f' g' : Nat → Int32} {ver np nq : Nat} {P F S : Nat → Nat} (r : lsR v p q f g ver np nq P F S) (h : ∀ k, k < np + nq → f' k = f k ∧ g' k = g k) : lsR v p q f' g' ver np nq P F S :=
  ⟨r.1, r.2.1, r.2.2.1, fun k hk => by rw [(h k (by omega)).1]; exact r.2.2.2.1 k hk, fun k hk => by rw [(h (np + k) (by omega)).1, (h (np + k) (by omega)).2]; exact r.2.2.2.2 k hk⟩
/-- how many parts n entries are -/
def pt (n : Nat) : Nat := (n + 7) / 8
