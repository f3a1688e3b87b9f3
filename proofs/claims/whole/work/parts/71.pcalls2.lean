/-! PURE: more calls -/
theorem upd_self {f g : Nat → Int32} {n k : Nat} (h : ∀ i, i < n → f i = g i) : ∀ i, i < n → upd f k (f k) i = g i := fun i hi => by
  by_cases e : i = k
  · rw [e, pk_us]; rw [e] at hi; exact h k hi
  · rw [pk_un e]; exact h i hi
theorem upd_w {fw sw sl : Nat → Int32} {n k : Nat} {v x : Int32} (h : ∀ i, i < n → sl i = 0 → fw i = sw i) : ∀ i, i < n → upd sl k x i = 0 → upd fw k v i = upd sw k v i := fun i hi q => by
  by_cases e : i = k
  · rw [e, pk_us, pk_us]
  · rw [pk_un e, pk_un e]; rw [pk_un e] at q; exact h i hi q
theorem s_mWord0 {p : Int32} (q : p < 0 ∨ 2 ≤ p) {post : Int32 → Prop} (h : post 0) : v_Model_in p 0 1 post := by
  refine s_mIn (fun _ => h) (fun a b => ?_)
  rcases q with q | q
  · exact absurd q a
  · refine absurd ?_ b
    rw [Int32.le_iff_toInt_le] at q
    rw [Int32.lt_iff_toInt_lt]
    have a1 : (1 : Int32).toInt = 1 := by decide
    have a2 : (2 : Int32).toInt = 2 := by decide
    omega
theorem s_mWord1 {i : Nat} (hi : i < 2) {post : Int32 → Prop} (h : post 1) : v_Model_in (nI i) 0 1 post := by
  refine s_mIn (fun w => ?_) (fun _ _ => h)
  rcases w with w | w
  · exact absurd w (nI_pos (by omega))
  · exact absurd w (nI_nlt (a := 1) (by omega) (by omega))
section MD
variable {kc kn kz ko kt kr : Int32} {fw fl fs ff fv fk fp fy fq fi fj fm : Nat → Int32} {ver np nq : Nat} {P F S : Nat → Nat}
theorem s_mWrite (r : moR fv fp fy fq fi fj ver np nq P F S) (ok : okL np nq P F S) (hver : ver < 2 ^ 31) (hv0 : ver ≠ 0) {s i : Nat} (hs : s < 192) (hl : lg P np s = true) (hi : i < 2) (hko : ko = 0) (hkt : (-1 : Int32) ≤ kt) {v : Int32} {post : Int32 → Int32 → Int32 → Int32 → Int32 → (Nat → Int32) → (Nat → Int32) → Prop}
    (h1 : ¬ fs (pl F S nq s) = 0 → post 1 0 ko kt kr fw fl) (h2 : fs (pl F S nq s) = 0 → kt = 0 → post (-5) 0 1 kt kr fw fl) (h3 : fs (pl F S nq s) = 0 → ¬ kt = 0 → post 0 0 ko (nl kt) (kr + 1) (upd fw (2 * pl F S nq s + i) v) (upd fl (2 * pl F S nq s + i) 0)) : v_Model_write kc kn kz ko kt kr fw fl fs ff fv fk fp fy fq fi fj fm (nI (ct P np s)) (nI i) v post := by
  have hd := pl_data ok hs hl
  refine s_mHas1 r ok hver (has_c hv0 hs hl) ⟨fun z => absurd z (by decide), fun _ => s_mWord1 hi ⟨fun z => absurd z (by decide), fun _ => ⟨fun _ => ⟨fun _ => ?_, fun z => absurd hko z⟩, fun z => absurd (by decide) z⟩⟩⟩
  refine s_mPlaceOf r ok hs hl ⟨vp_in_nI hd.2 (by omega), ?_⟩
  rw [nI_clamp (by omega), ix2', nI_clamp (by omega)]
  exact ⟨fun e => s_mWritesOne hkt (fun e2 => ⟨fun z => absurd rfl z, fun _ => h2 e e2⟩) (fun e2 => ⟨fun _ => ⟨vp_in_nI (by omega) (by omega), vp_in_nI (by omega) (by omega), h3 e e2⟩, fun z => absurd z (by decide)⟩), h1⟩
theorem s_mRead (r : moR fv fp fy fq fi fj ver np nq P F S) (ok : okL np nq P F S) (hver : ver < 2 ^ 31) (hv0 : ver ≠ 0) {s i : Nat} (hs : s < 192) (hl : lg P np s = true) (hi : i < 2) (hko : ko = 0) {post : Int32 → Int32 → Prop}
    (h3 : fs (pl F S nq s) = 2 → post 0 3) (h4 : ¬ fs (pl F S nq s) = 2 → ¬ fl (2 * pl F S nq s + i) = 0 → post 0 4) (h0 : ¬ fs (pl F S nq s) = 2 → fl (2 * pl F S nq s + i) = 0 → post (fw (2 * pl F S nq s + i)) 0) : v_Model_read kc kn kz ko kt kr fw fl fs ff fv fk fp fy fq fi fj fm (nI (ct P np s)) (nI i) post := by
  have hd := pl_data ok hs hl
  refine s_mHas1 r ok hver (has_c hv0 hs hl) ⟨fun z => absurd z (by decide), fun _ => s_mWord1 hi ⟨fun _ => ⟨fun _ => ⟨fun _ => ?_, fun z => absurd (by decide) z⟩, fun z => absurd hko z⟩, fun z => absurd z (by decide)⟩⟩
  refine s_mPlaceOf r ok hs hl ⟨vp_in_nI hd.2 (by omega), ?_⟩
  rw [nI_clamp (by omega), ix2', nI_clamp (by omega)]
  refine ⟨fun e => ⟨vp_in_nI (by omega) (by omega), fun e2 => ⟨fun _ => ?_, fun z => absurd (by decide) z⟩, fun e2 => ⟨fun z => absurd z (by decide), fun _ => h4 e e2⟩⟩, fun e => ⟨fun z => absurd z (by decide), fun _ => h3 e⟩⟩
  rw [ix2', nI_clamp (by omega)]
  exact ⟨vp_in_nI (by omega) (by omega), h0 e e2⟩
theorem t_told {xv xc xp xq : Int32} {xf xg : Nat → Int32} {dn dz : Int32} {df : Nat → Int32} {ofv ol od mk : Int32} {mo mp ml mi : Nat → Int32} {p0 : Int32} (r : lsR xv xp xq xf xg ver np nq P F S) (m : moR fv fp fy fq fi fj ver np nq P F S) (ok : okL np nq P F S) (hver : ver < 2 ^ 31) (cmk : mk = nI (cp ver P np)) (a1 : kr = od) (a2 : ko = ofv) (a3 : kn = dn) (a4 : kt = ol) {X : Prop} (i1 : X) {J : Int32 → Prop} (h : J 0) : v_DefectDrive_told dn dz df ofv ol od mk mo mp ml mi xv xc xp xq xf xg p0 (fun r => X ∧ v_Model_told kc kn kz ko kt kr fw fl fs ff fv fk fp fy fq fi fj fm p0 (fun r' kc' => ((r = r' → J kc') ∧ (¬ r = r' → False)))) := by
  have q : ∀ x y : Int32, x = y → ((x = y → J 0) ∧ (¬ x = y → False)) := fun x y e => ⟨fun _ => h, fun z => z e⟩
  refine ⟨fun e => ?_, fun e => ?_, fun e => ?_, fun e => ?_, fun e => ?_, fun e => ?_, fun e => ?_, fun e => ?_, fun n0 n1 n2 n3 n4 n5 n6 n7 => ⟨i1, fun z => absurd z n0, fun z => absurd z n1, fun z => absurd z n2, fun z => absurd z n3, fun z => absurd z n4, fun z => absurd z n5, fun z => absurd z n6, fun z => absurd z n7, fun _ _ _ _ _ _ _ _ => q _ _ rfl⟩⟩
  · subst e
    exact ⟨i1, ⟨fun _ => s_mCapacity m ok hver (q _ _ cmk), fun z => absurd z (by decide), fun z => absurd z (by decide), fun z => absurd z (by decide), fun z => absurd z (by decide), fun z => absurd z (by decide), fun z => absurd z (by decide), fun z => absurd z (by decide), fun n0 n1 n2 n3 n4 n5 n6 n7 => absurd rfl n0⟩⟩
  · subst e
    exact ⟨i1, ⟨fun z => absurd z (by decide), fun _ => ⟨in04, q _ _ (by rw [sb_cl0, m.1]; exact r.1)⟩, fun z => absurd z (by decide), fun z => absurd z (by decide), fun z => absurd z (by decide), fun z => absurd z (by decide), fun z => absurd z (by decide), fun z => absurd z (by decide), fun n0 n1 n2 n3 n4 n5 n6 n7 => absurd rfl n1⟩⟩
  · subst e
    exact ⟨i1, ⟨fun z => absurd z (by decide), fun z => absurd z (by decide), fun _ => ⟨in04, q _ _ (by rw [sb_cl0, m.2.2.1]; exact r.2.2.1)⟩, fun z => absurd z (by decide), fun z => absurd z (by decide), fun z => absurd z (by decide), fun z => absurd z (by decide), fun z => absurd z (by decide), fun n0 n1 n2 n3 n4 n5 n6 n7 => absurd rfl n2⟩⟩
  · subst e
    exact ⟨i1, ⟨fun z => absurd z (by decide), fun z => absurd z (by decide), fun z => absurd z (by decide), fun _ => ⟨in04, q _ _ (by rw [sb_cl0, m.2.1]; exact r.2.1)⟩, fun z => absurd z (by decide), fun z => absurd z (by decide), fun z => absurd z (by decide), fun z => absurd z (by decide), fun n0 n1 n2 n3 n4 n5 n6 n7 => absurd rfl n3⟩⟩
  · subst e
    exact ⟨i1, ⟨fun z => absurd z (by decide), fun z => absurd z (by decide), fun z => absurd z (by decide), fun z => absurd z (by decide), fun _ => q _ _ a1.symm, fun z => absurd z (by decide), fun z => absurd z (by decide), fun z => absurd z (by decide), fun n0 n1 n2 n3 n4 n5 n6 n7 => absurd rfl n4⟩⟩
  · subst e
    exact ⟨fun w => ⟨i1, ⟨fun z => absurd z (by decide), fun z => absurd z (by decide), fun z => absurd z (by decide), fun z => absurd z (by decide), fun z => absurd z (by decide), fun _ => ⟨fun _ => q _ _ rfl, fun z => absurd (a2.trans w) z⟩, fun z => absurd z (by decide), fun z => absurd z (by decide), fun n0 n1 n2 n3 n4 n5 n6 n7 => absurd rfl n5⟩⟩, fun w => ⟨i1, ⟨fun z => absurd z (by decide), fun z => absurd z (by decide), fun z => absurd z (by decide), fun z => absurd z (by decide), fun z => absurd z (by decide), fun _ => ⟨fun z => absurd (a2.symm.trans z) w, fun _ => q _ _ rfl⟩, fun z => absurd z (by decide), fun z => absurd z (by decide), fun n0 n1 n2 n3 n4 n5 n6 n7 => absurd rfl n5⟩⟩⟩
  · subst e
    exact ⟨i1, ⟨fun z => absurd z (by decide), fun z => absurd z (by decide), fun z => absurd z (by decide), fun z => absurd z (by decide), fun z => absurd z (by decide), fun z => absurd z (by decide), fun _ => q _ _ a3.symm, fun z => absurd z (by decide), fun n0 n1 n2 n3 n4 n5 n6 n7 => absurd rfl n6⟩⟩
  · subst e
    exact ⟨i1, ⟨fun z => absurd z (by decide), fun z => absurd z (by decide), fun z => absurd z (by decide), fun z => absurd z (by decide), fun z => absurd z (by decide), fun z => absurd z (by decide), fun z => absurd z (by decide), fun _ => q _ _ a4.symm, fun n0 n1 n2 n3 n4 n5 n6 n7 => absurd rfl n7⟩⟩
end MD
