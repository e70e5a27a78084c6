def AP (mm s sd : Nat) (σ τ σ2 τ2 : zS) (p dep ne ni nn nj nc r p2 : Nat) (so : Int32) : Prop := PB mm s sd σ2 τ2 p2 dep (ne + 1) ni nn ∧ pFr σ σ2 ne ni ∧ qFr sd τ τ2 nn ∧ p + 2 ≤ p2 ∧ 2 * ne ≤ p ∧ nn ≤ p ∧ nc + nj = ne ∧ r < 8 ∧ σ2 8 ne = so ∧ σ2 9 ne = nI r ∧ σ2 12 ne = nI ni ∧ σ2 7 9 = nI nj ∧ τ2 38 14 = nI (nc + 1)
section
variable {mm s sd : Nat} {σ τ σ2 τ2 : zS} {p dep ne ni nn nj nc r p2 : Nat} {so : Int32}
theorem AP.set (A : AP mm s sd σ τ σ2 τ2 p dep ne ni nn nj nc r p2 so) {c : Nat} (hc : c = 10 ∨ c = 11) (v : Int32) : AP mm s sd σ τ (wr σ2 c ne v) τ2 p dep ne ni nn nj nc r p2 so := by
  obtain ⟨b1, b2, b3, b4, b5, b6, b7, b8, b9, b10, b11, b12, b13⟩ := A
  exact ⟨b1.set (by omega) _ _, b2.tr (pFr.set (by omega) (Nat.le_refl _) v) (Nat.le_refl _) (Nat.le_refl ni), b3, b4, b5, b6, b7, b8, by rw [wr_cell _ _ _ (by omega), b9], by rw [wr_cell _ _ _ (by omega), b10], by rw [wr_cell _ _ _ (by omega), b11], by rw [wr_cell _ _ _ (by omega), b12], b13⟩
theorem AP.w42 (A : AP mm s sd σ τ σ2 τ2 p dep ne ni nn nj nc r p2 so) {k : Nat} (hk : k = 42 ∨ k = 43) (v : Int32) : AP mm s sd σ τ σ2 (wr τ2 38 k v) p dep ne ni nn nj nc r p2 so := by
  obtain ⟨b1, b2, b3, b4, b5, b6, b7, b8, b9, b10, b11, b12, b13⟩ := A
  exact ⟨b1.w42 (by omega) v, b2, b3.tr (qFr.w (by omega) v) (Nat.le_refl _), b4, b5, b6, b7, b8, b9, b10, b11, b12, by rw [wr_slot _ _ _ (by omega), b13]⟩
theorem AP.skip (A : AP mm s sd σ τ σ2 τ2 p dep ne ni nn nj nc r p2 so) (hp : p2 < mm) : AP mm s sd σ τ (wr σ2 3 4 (nI (p2 + 1))) (wr τ2 38 8 (nI (p2 + 1))) p dep ne ni nn nj nc r (p2 + 1) so := by
  obtain ⟨b1, b2, b3, b4, b5, b6, b7, b8, b9, b10, b11, b12, b13⟩ := A
  obtain ⟨g1, g2, g3⟩ := b1.skip hp
  exact ⟨g1, b2.tr (g2.p (ne + 1)) (by omega) (Nat.le_refl _), b3.tr g3.q (Nat.le_refl _), by omega, b5, b6, b7, b8, by rw [wr_cell _ _ _ (by omega), b9], by rw [wr_cell _ _ _ (by omega), b10], by rw [wr_cell _ _ _ (by omega), b11], by rw [wr_cell _ _ _ (by omega), b12], by rw [wr_slot _ _ _ (by omega), b13]⟩
theorem AP.no (A : AP mm s sd σ τ σ2 τ2 p dep ne ni nn nj nc r p2 so) : SRes mm s sd σ τ p dep ne ni nn 0 (some (1, 0, σ2)) (some (1, 0, wr τ2 38 3 (σ2 5 p2))) := SRes.no A.1 A.2.1 A.2.2.1
/-- a statement that ends in an X -/
theorem t_finX (d : Nat) (o x3 : Int32) (A : AP mm s sd σ τ σ2 τ2 p dep ne ni nn nj nc r p2 so) (hO : (o = 10 ∧ so = 0) ∨ (o = 1 ∧ so = 1 ∧ x3 = σ2 10 ne) ∨ (o = 2 ∧ so = 2 ∧ x3 = 0)) {dc : Nat} (hdc : 30 * (11 - dep) + 35 ≤ dc) (hd2 : dc ≤ d + 4) :
    ∃ rr σ3 τ3, zM dc mX2_readX [.inr (.inr 23), .inl (nI dep)] σ2 = some (1, rr, σ3) ∧ zM (d + 4) mX8_readX [.inr (.inr 38)] τ2 = some (1, rr, τ3) ∧ (rr = 0 ∨ rr = 1) ∧ SRes mm s sd σ τ p dep ne ni nn 0 (if rr = 0 then some (1, 0, σ3) else (zbI (zM (d + 4) mX6_take [.inr (.inr 3), .inl 59] σ3) (fun r7 s7 => if r7 = 0 then (some (1, 0, s7)) else (some (1, 1, s7))))) (if rr = 0 then some (1, 0, τ3) else zbI (zM (d + 4) mX8_node [.inr (.inr 38), .inl o, .inl (nI r), .inl x3, .inl (τ3 38 41)] τ3) (fun r2 s2 => zbI (zM (d + 4) mX8_want [.inr (.inr 38), .inl 59] (wr s2 38 41 r2)) (fun r3 s3 => if r3 = 0 ∨ r3 = 1 then (some (1, r3, s3)) else (none)))) := by
  obtain ⟨b1, b2, b3, b4, b5, b6, b7, b8, b9, b10, b11, b12, b13⟩ := A
  have hle := b1.le
  obtain ⟨rr, σ3, τ3, o1, o2, gx, gy, g⟩ := t_readX mm s sd (ne + 1) dep hle.2.2.2.2.2 dc (by omega) _ _ _ _ _ b1
  refine ⟨rr, σ3, τ3, o1, zM_mono o2 hd2, ?_, ?_⟩
  · rcases g with ⟨rfl, _⟩ | ⟨rfl, _⟩
    · exact Or.inl rfl
    · exact Or.inr rfl
  rcases g with ⟨rfl, g⟩ | ⟨rfl, p1, ni1, nn1, x, H3, G3⟩
  · rw [if_pos rfl, if_pos rfl]
    exact SRes.no2 (b2.tr (gx.p (ne + 1)) (by omega) (Nat.le_refl _)) (b3.tr gy.q (Nat.le_refl _)) g
  · have hle3 := H3.le
    have gi := G3.ile
    have G30 := G3
    obtain ⟨q1, q2, q3, q4, q5, q6⟩ := G3
    rw [if_neg n10, if_neg n10, q5]
    have hE : ∀ c, 8 ≤ c → c ≤ 12 → σ3 c = σ2 c := fun c h1 h2 => gx.1 c (by omega) (by omega) (by omega) (by omega)
    refine t_fin (d + 1) o (nI r) x3 (nI x) H3 (b2.tr (gx.p (ne + 1)) (by omega) (Nat.le_refl _)) (b3.tr gy.q (Nat.le_refl _)) (by omega) (by omega) (by omega) q4 (by omega) b5 b6 (nj := nj) (nc := nc + 1) ?_ ?_ (by omega) ?_
    · rw [gx.2.2.1 9 (by omega), b12]
    · rw [gy.2.1 14 (by omega) (by omega) (by omega) (by omega), b13]
    · obtain ⟨e0, e1, e2, e3, e4, e5, e6⟩ := mNd_at τ3 sd nn1 o (nI r) x3 (nI x)
      have hX := (G30.rx (by omega) (by omega)).nd o (nI r) x3 (nI x)
      refine ⟨by omega, by rw [hE 12 (by omega) (by omega), b11], by omega, by omega, Or.inl ⟨rfl, ⟨r, b8, by rw [hE 9 (by omega) (by omega), b10], e2⟩, ?_⟩⟩
      rcases hO with ⟨rfl, rfl⟩ | ⟨rfl, rfl, hx3⟩ | ⟨rfl, rfl, hx3⟩
      · exact Or.inl ⟨e1, by rw [hE 8 (by omega) (by omega), b9], x, e4, hX⟩
      · exact Or.inr (Or.inl ⟨e1, by rw [hE 8 (by omega) (by omega), b9], by rw [e3, hE 10 (by omega) (by omega), hx3], x, e4, hX⟩)
      · exact Or.inr (Or.inr (Or.inl ⟨e1, by rw [hE 8 (by omega) (by omega), b9], by rw [e3, hx3], x, e4, hX⟩))
/-- a statement with no X -/
theorem t_finN (d : Nat) (o x3 x4 : Int32) (A : AP mm s sd σ τ σ2 τ2 p dep ne ni nn nj nc r p2 so) (hp3 : p + 3 ≤ p2) (hO : (o = 9 ∧ so = 3 ∧ x3 = σ2 10 ne ∧ ∃ x, x < 8 ∧ σ2 10 ne = nI x) ∨ (o = 3 ∧ so = 4 ∧ x3 = σ2 10 ne ∧ x4 = σ2 11 ne ∧ ∃ x y, x < 8 ∧ σ2 10 ne = nI x ∧ y < 8 ∧ σ2 11 ne = nI y) ∨ (o = 4 ∧ so = 5 ∧ x3 = σ2 10 ne ∧ ∃ x, x < 8 ∧ σ2 10 ne = nI x) ∨ (o = 5 ∧ so = 6) ∨ (o = 6 ∧ so = 7) ∨ (o = 7 ∧ so = 8 ∧ x3 = σ2 10 ne)) :
    SRes mm s sd σ τ p dep ne ni nn 0 (zbI (zM (d + 4) mX6_take [.inr (.inr 3), .inl 59] σ2) (fun r7 s7 => if r7 = 0 then (some (1, 0, s7)) else (some (1, 1, s7)))) (zbI (zM (d + 4) mX8_node [.inr (.inr 38), .inl o, .inl (nI r), .inl x3, .inl x4] τ2) (fun r2 s2 => zbI (zM (d + 4) mX8_want [.inr (.inr 38), .inl 59] (wr s2 38 41 r2)) (fun r3 s3 => if r3 = 0 ∨ r3 = 1 then (some (1, r3, s3)) else (none)))) := by
  obtain ⟨b1, b2, b3, b4, b5, b6, b7, b8, b9, b10, b11, b12, b13⟩ := A
  have hle := b1.le
  refine t_fin (d + 1) o (nI r) x3 x4 b1 b2 b3 (by omega) (by omega) (by omega) (Nat.le_refl _) (Nat.le_refl _) b5 b6 (nj := nj) (nc := nc + 1) b12 b13 (by omega) ?_
  obtain ⟨e0, e1, e2, e3, e4, e5, e6⟩ := mNd_at τ2 sd nn o (nI r) x3 x4
  refine ⟨by omega, b11, by omega, by omega, Or.inl ⟨rfl, ⟨r, b8, b10, e2⟩, ?_⟩⟩
  rcases hO with ⟨rfl, rfl, h1, h2⟩ | ⟨rfl, rfl, h1, h2, h3⟩ | ⟨rfl, rfl, h1, h2⟩ | ⟨rfl, rfl⟩ | ⟨rfl, rfl⟩ | ⟨rfl, rfl, h1⟩
  · exact Or.inr (Or.inr (Or.inr (Or.inl ⟨rfl, e1, b9, by rw [e3, h1], h2⟩)))
  · exact Or.inr (Or.inr (Or.inr (Or.inr (Or.inl ⟨rfl, e1, b9, by rw [e3, h1], by rw [e4, h2], h3⟩))))
  · exact Or.inr (Or.inr (Or.inr (Or.inr (Or.inr (Or.inl ⟨rfl, e1, b9, by rw [e3, h1], h2⟩)))))
  · exact Or.inr (Or.inr (Or.inr (Or.inr (Or.inr (Or.inr (Or.inl ⟨rfl, e1, b9⟩))))))
  · exact Or.inr (Or.inr (Or.inr (Or.inr (Or.inr (Or.inr (Or.inr (Or.inl ⟨rfl, e1, b9⟩)))))))
  · exact Or.inr (Or.inr (Or.inr (Or.inr (Or.inr (Or.inr (Or.inr (Or.inr ⟨rfl, e1, b9, by rw [e3, h1]⟩)))))))
theorem t_rest (d : Nat) (M : Nat) (A : AP mm s sd σ τ σ2 τ2 p dep ne ni nn nj nc r p2 so) (hp3 : p + 3 ≤ p2) (hD : 30 * (11 - dep) + 40 ≤ d) {v : Int32} (hw : wPair so v) (hv : ¬ v = 8) :
    SRes mm s sd σ τ p dep ne ni nn 0 (zbI (zbI (zM (d + 3) mX2_readRest [.inr (.inr 23), .inl so, .inl (nI ne), .inl (nI dep)] σ2) (fun r9 s9 => if r9 = 0 ∨ r9 = 1 then (some (1, r9, s9)) else (none))) (fun r6 s6 => if r6 = 0 then (some (1, 0, s6)) else (zbI (zM (d + 4) mX6_take [.inr (.inr 3), .inl 59] s6) (fun r7 s7 => if r7 = 0 then (some (1, 0, s7)) else (some (1, 1, s7))))))
      (zexec zc_X8_readStatement zu_X8_readStatement (zM (d + 4)) (M + 6) 206 [.inr (.inr 38), .inl (nI r), .inl v] τ2) := by
  obtain ⟨d, rfl⟩ : ∃ q, d = q + 1 := ⟨d - 1, by omega⟩
  have e44 : (44 : Int32) = nI 44 := rfl
  have e3 : (3 : Int32) = nI 3 := rfl
  have e2 : (2 : Int32) = nI 2 := rfl
  rw [qX2_readRest_23, qX2_readRest_23_0, qX8_readStatement_38_206]
  rcases hw with ⟨rfl, rfl⟩ | ⟨rfl, rfl⟩ | ⟨rfl, rfl⟩ | ⟨rfl, rfl⟩ | ⟨rfl, rfl⟩ | ⟨rfl, rfl⟩ | ⟨rfl, rfl⟩ | ⟨rfl, rfl⟩ | ⟨rfl, rfl⟩
  · -- act
    rw [if_pos rfl, if_pos rfl, qX8_readStatement_38_222, m_readNumber (d + 3) A.1, e3, c_readFirst d A.1 (by omega) (by omega) (by omega)]
    by_cases h : σ2 4 p2 = nI 3
    · have hp2 := A.1.ltS (c := 3) (by omega) (by omega) h
      rw [if_pos h, if_pos h, zbI_some, zbI_some, if_neg n10, if_neg n10, if_pos rfl, e44]
      have A2 := ((A.set (c := 10) (by omega) (σ2 6 p2)).w42 (k := 43) (by omega) (σ2 6 p2)).skip hp2
      have hg : wr (wr τ2 38 43 (σ2 6 p2)) 38 8 (nI (p2 + 1)) 38 43 = wr (wr σ2 10 ne (σ2 6 p2)) 3 4 (nI (p2 + 1)) 10 ne := by rw [wr_slot _ _ _ (by omega), wr_same, wr_cell _ _ _ (by omega), wr_same]
      rw [hg]
      generalize wr (wr σ2 10 ne (σ2 6 p2)) 3 4 (nI (p2 + 1)) = σ3 at *
      generalize wr (wr τ2 38 43 (σ2 6 p2)) 38 8 (nI (p2 + 1)) = τ3 at *
      rw [(t_take (d + 1) A2.1 (c := 44) (by omega) (by omega)).1, m_want (d + 2) A2.1 (c := 44) (by omega) (by omega)]
      by_cases h4 : σ3 4 (p2 + 1) = nI 44
      · have hp3 := A2.1.ltS (c := 44) (by omega) (by omega) h4
        rw [if_pos h4, if_pos h4, zbI_some, zbI_some, if_neg n10, if_neg n10]
        have A3 := A2.skip hp3
        have hg2 : wr σ3 3 4 (nI (p2 + 1 + 1)) 10 = σ3 10 := wr_cell _ _ _ (by omega)
        obtain ⟨rr, σ4, τ4, o1, o2, o3, o4⟩ := t_finX (d + 1) 1 (σ3 10 ne) A3 (Or.inr (Or.inl ⟨rfl, rfl, by rw [hg2]⟩)) (dc := d + 3) (by omega) (by omega)
        rw [qX8_readStatement_38_252, if_neg (show ¬ (1 : Int32) = 9 by decide), if_neg (show ¬ (1 : Int32) = 4 by decide), if_neg (show ¬ (1 : Int32) = 3 by decide), qX8_readStatement_38_282, if_neg (show ¬ (1 : Int32) = 3 by decide), qX8_readStatement_38_311, if_neg (show ¬ (1 : Int32) = 10 by decide), if_pos rfl, o1, o2, zbI_some, zbI_some]
        rcases o3 with rfl | rfl
        · rw [if_pos rfl, zbI_some, if_pos (Or.inl rfl), zbI_some, if_pos rfl, if_pos rfl]
          rw [if_pos rfl, if_pos rfl] at o4; exact o4
        · rw [if_neg n10, zbI_some, if_pos (Or.inr rfl), zbI_some, if_neg n10, if_neg n10]
          rw [if_neg n10, if_neg n10] at o4; exact o4
      · rw [if_neg h4, if_neg h4, zbI_some, zbI_some, if_pos rfl, if_pos rfl, zbI_some, if_pos (Or.inl rfl), zbI_some, if_pos rfl]
        exact A2.no
    · rw [if_neg h, if_neg h, zbI_some, zbI_some, if_pos rfl, if_pos rfl, zbI_some, if_pos (Or.inl rfl), zbI_some, if_pos rfl]
      have := (A.set (c := 10) (by omega) (σ2 6 p2)).no
      rw [wr_cell _ _ _ (show 5 ≠ 10 by omega)] at this
      exact this
  · -- timer
    obtain ⟨rr, σ4, τ4, o1, o2, o3, o4⟩ := t_finX (d + 1) 2 0 A (Or.inr (Or.inr ⟨rfl, rfl, rfl⟩)) (dc := d + 3) (by omega) (by omega)
    rw [if_neg (show ¬ (2 : Int32) = 1 by decide), if_pos rfl, if_neg (show ¬ (2 : Int32) = 1 by decide), if_neg (show ¬ (2 : Int32) = 7 by decide), qX8_readStatement_38_252, if_neg (show ¬ (2 : Int32) = 9 by decide), if_neg (show ¬ (2 : Int32) = 4 by decide), if_neg (show ¬ (2 : Int32) = 3 by decide), qX8_readStatement_38_282, if_neg (show ¬ (2 : Int32) = 3 by decide), qX8_readStatement_38_311, if_neg (show ¬ (2 : Int32) = 10 by decide), if_neg (show ¬ (2 : Int32) = 1 by decide), if_pos rfl, o1, o2, zbI_some, zbI_some]
    rcases o3 with rfl | rfl
    · rw [if_pos (Or.inl rfl), zbI_some, if_pos (Or.inl rfl), zbI_some, if_pos rfl, if_pos rfl]
      rw [if_pos rfl, if_pos rfl] at o4; exact o4
    · rw [if_pos (Or.inr rfl), zbI_some, if_pos (Or.inr rfl), zbI_some, if_neg n10, if_neg n10]
      rw [if_neg n10, if_neg n10] at o4; exact o4
  · -- any
    rw [if_neg (show ¬ (4 : Int32) = 1 by decide), if_neg (show ¬ (4 : Int32) = 2 by decide), if_neg (show ¬ (4 : Int32) = 3 by decide), if_pos rfl, if_neg (show ¬ (3 : Int32) = 1 by decide), if_neg (show ¬ (3 : Int32) = 7 by decide), qX8_readStatement_38_252, if_neg (show ¬ (3 : Int32) = 9 by decide), if_neg (show ¬ (3 : Int32) = 4 by decide), if_pos rfl, m_readRegister (d + 3) A.1, e2, c_readFirst d A.1 (by omega) (by omega) (by omega)]
    by_cases h : σ2 4 p2 = nI 2
    · have hp2 := A.1.ltS (c := 2) (by omega) (by omega) h
      obtain ⟨x, hx, hxv⟩ := reg_val A.1 h
      rw [if_pos h, if_pos h, zbI_some, zbI_some, if_neg n10, if_neg n10, qX8_readStatement_38_282, if_pos rfl, e44]
      have A2 := ((A.set (c := 10) (by omega) (σ2 6 p2)).w42 (k := 42) (by omega) (σ2 6 p2)).skip hp2
      have hg : wr (wr τ2 38 42 (σ2 6 p2)) 38 8 (nI (p2 + 1)) 38 42 = wr (wr σ2 10 ne (σ2 6 p2)) 3 4 (nI (p2 + 1)) 10 ne := by rw [wr_slot _ _ _ (by omega), wr_same, wr_cell _ _ _ (by omega), wr_same]
      have hg3 : wr (wr σ2 10 ne (σ2 6 p2)) 3 4 (nI (p2 + 1)) 10 ne = nI x := by rw [wr_cell _ _ _ (by omega), wr_same, hxv]
      rw [hg]
      generalize wr (wr σ2 10 ne (σ2 6 p2)) 3 4 (nI (p2 + 1)) = σ3 at *
      generalize wr (wr τ2 38 42 (σ2 6 p2)) 38 8 (nI (p2 + 1)) = τ3 at *
      rw [(t_take (d + 1) A2.1 (c := 44) (by omega) (by omega)).1, m_want (d + 2) A2.1 (c := 44) (by omega) (by omega)]
      by_cases h4 : σ3 4 (p2 + 1) = nI 44
      · have hp3 := A2.1.ltS (c := 44) (by omega) (by omega) h4
        rw [if_pos h4, if_pos h4, zbI_some, zbI_some, if_neg n10, if_neg n10]
        have A3 := A2.skip hp3
        have hg2 : wr σ3 3 4 (nI (p2 + 1 + 1)) 10 ne = nI x := by rw [wr_cell _ _ _ (by omega), hg3]
        rw [hg3]
        generalize wr σ3 3 4 (nI (p2 + 1 + 1)) = σ4 at *
        generalize wr τ3 38 8 (nI (p2 + 1 + 1)) = τ4 at *
        rw [m_readRegister (d + 3) A3.1, c_readSecond d A3.1 (by omega)]
        by_cases h5 : σ4 4 (p2 + 1 + 1) = nI 2
        · have hp4 := A3.1.ltS (c := 2) (by omega) (by omega) h5
          obtain ⟨y, hy, hyv⟩ := reg_val A3.1 h5
          rw [if_pos h5, if_pos h5, zbI_some, zbI_some, if_neg n10, if_neg n10, zbI_some, if_pos (Or.inr rfl), zbI_some, if_neg n10, qX8_readStatement_38_311, if_neg (show ¬ (3 : Int32) = 10 by decide), if_neg (show ¬ (3 : Int32) = 1 by decide), if_neg (show ¬ (3 : Int32) = 2 by decide)]
          have A4 := ((A3.set (c := 11) (by omega) (σ4 6 (p2 + 1 + 1))).w42 (k := 42) (by omega) (σ4 6 (p2 + 1 + 1))).skip hp4
          have q1 : wr (wr τ4 38 42 (σ4 6 (p2 + 1 + 1))) 38 8 (nI (p2 + 1 + 1 + 1)) 38 42 = nI y := by rw [wr_slot _ _ _ (by omega), wr_same, hyv]
          have q2 : wr (wr σ4 11 ne (σ4 6 (p2 + 1 + 1))) 3 4 (nI (p2 + 1 + 1 + 1)) 11 ne = nI y := by rw [wr_cell _ _ _ (by omega), wr_same, hyv]
          have q3 : wr (wr σ4 11 ne (σ4 6 (p2 + 1 + 1))) 3 4 (nI (p2 + 1 + 1 + 1)) 10 ne = nI x := by rw [wr_cell _ _ _ (by omega), wr_cell _ _ _ (by omega), hg2]
          rw [q1]
          exact t_finN (d + 1) 3 (nI x) (nI y) A4 (by omega) (Or.inr (Or.inl ⟨rfl, rfl, q3.symm, q2.symm, x, y, hx, q3, hy, q2⟩))
        · rw [if_neg h5, if_neg h5, zbI_some, zbI_some, if_pos rfl, if_pos rfl, zbI_some, if_pos (Or.inl rfl), zbI_some, if_pos rfl]
          have := (A3.set (c := 11) (by omega) (σ4 6 (p2 + 1 + 1))).no
          rw [wr_cell _ _ _ (show 5 ≠ 11 by omega)] at this
          exact this
      · rw [if_neg h4, if_neg h4, zbI_some, zbI_some, if_pos rfl, if_pos rfl, zbI_some, if_pos (Or.inl rfl), zbI_some, if_pos rfl]
        exact A2.no
    · rw [if_neg h, if_neg h, zbI_some, zbI_some, if_pos rfl, if_pos rfl, zbI_some, if_pos (Or.inl rfl), zbI_some, if_pos rfl]
      have := (A.set (c := 10) (by omega) (σ2 6 p2)).no
      rw [wr_cell _ _ _ (show 5 ≠ 10 by omega)] at this
      exact this
  · -- ended
    rw [if_neg (show ¬ (5 : Int32) = 1 by decide), if_neg (show ¬ (5 : Int32) = 2 by decide), if_neg (show ¬ (5 : Int32) = 3 by decide), if_neg (show ¬ (5 : Int32) = 4 by decide), if_pos rfl, if_neg (show ¬ (4 : Int32) = 1 by decide), if_neg (show ¬ (4 : Int32) = 7 by decide), qX8_readStatement_38_252, if_neg (show ¬ (4 : Int32) = 9 by decide), if_pos rfl, m_readRegister (d + 3) A.1, e2, c_readFirst d A.1 (by omega) (by omega) (by omega)]
    by_cases h : σ2 4 p2 = nI 2
    · have hp2 := A.1.ltS (c := 2) (by omega) (by omega) h
      obtain ⟨x, hx, hxv⟩ := reg_val A.1 h
      rw [if_pos h, if_pos h, zbI_some, zbI_some, if_pos (Or.inr rfl), zbI_some, if_pos (Or.inr rfl), zbI_some, if_neg n10, if_neg n10, qX8_readStatement_38_282, if_neg (show ¬ (4 : Int32) = 3 by decide), qX8_readStatement_38_311, if_neg (show ¬ (4 : Int32) = 10 by decide), if_neg (show ¬ (4 : Int32) = 1 by decide), if_neg (show ¬ (4 : Int32) = 2 by decide)]
      have A2 := ((A.set (c := 10) (by omega) (σ2 6 p2)).w42 (k := 42) (by omega) (σ2 6 p2)).skip hp2
      have hg : wr (wr τ2 38 42 (σ2 6 p2)) 38 8 (nI (p2 + 1)) 38 42 = nI x := by rw [wr_slot _ _ _ (by omega), wr_same, hxv]
      have hg3 : wr (wr σ2 10 ne (σ2 6 p2)) 3 4 (nI (p2 + 1)) 10 ne = nI x := by rw [wr_cell _ _ _ (by omega), wr_same, hxv]
      rw [hg]
      exact t_finN (d + 1) 4 (nI x) 0 A2 (by omega) (Or.inr (Or.inr (Or.inl ⟨rfl, rfl, hg3.symm, x, hx, hg3⟩)))
    · rw [if_neg h, if_neg h, zbI_some, zbI_some, if_pos (Or.inl rfl), zbI_some, if_pos (Or.inl rfl), zbI_some, if_pos rfl, if_pos rfl]
      have := (A.set (c := 10) (by omega) (σ2 6 p2)).no
      rw [wr_cell _ _ _ (show 5 ≠ 10 by omega)] at this
      exact this
  · -- sig
    rw [if_neg (show ¬ (6 : Int32) = 1 by decide), if_neg (show ¬ (6 : Int32) = 2 by decide), if_neg (show ¬ (6 : Int32) = 3 by decide), if_neg (show ¬ (6 : Int32) = 4 by decide), if_neg (show ¬ (6 : Int32) = 5 by decide), if_pos rfl, if_neg (show ¬ (5 : Int32) = 1 by decide), if_neg (show ¬ (5 : Int32) = 7 by decide), qX8_readStatement_38_252, if_neg (show ¬ (5 : Int32) = 9 by decide), if_neg (show ¬ (5 : Int32) = 4 by decide), if_neg (show ¬ (5 : Int32) = 3 by decide), qX8_readStatement_38_282, if_neg (show ¬ (5 : Int32) = 3 by decide), qX8_readStatement_38_311, if_neg (show ¬ (5 : Int32) = 10 by decide), if_neg (show ¬ (5 : Int32) = 1 by decide), if_neg (show ¬ (5 : Int32) = 2 by decide), zbI_some, if_pos (Or.inr rfl), zbI_some, if_neg n10]
    exact t_finN (d + 1) 5 0 0 A hp3 (Or.inr (Or.inr (Or.inr (Or.inl ⟨rfl, rfl⟩))))
  · -- now
    rw [if_neg (show ¬ (7 : Int32) = 1 by decide), if_neg (show ¬ (7 : Int32) = 2 by decide), if_neg (show ¬ (7 : Int32) = 3 by decide), if_neg (show ¬ (7 : Int32) = 4 by decide), if_neg (show ¬ (7 : Int32) = 5 by decide), if_neg (show ¬ (7 : Int32) = 6 by decide), if_pos rfl, if_neg (show ¬ (6 : Int32) = 1 by decide), if_neg (show ¬ (6 : Int32) = 7 by decide), qX8_readStatement_38_252, if_neg (show ¬ (6 : Int32) = 9 by decide), if_neg (show ¬ (6 : Int32) = 4 by decide), if_neg (show ¬ (6 : Int32) = 3 by decide), qX8_readStatement_38_282, if_neg (show ¬ (6 : Int32) = 3 by decide), qX8_readStatement_38_311, if_neg (show ¬ (6 : Int32) = 10 by decide), if_neg (show ¬ (6 : Int32) = 1 by decide), if_neg (show ¬ (6 : Int32) = 2 by decide), zbI_some, if_pos (Or.inr rfl), zbI_some, if_neg n10]
    exact t_finN (d + 1) 6 0 0 A hp3 (Or.inr (Or.inr (Or.inr (Or.inr (Or.inl ⟨rfl, rfl⟩)))))
  · -- patch
    rw [if_neg (show ¬ (8 : Int32) = 1 by decide), if_neg (show ¬ (8 : Int32) = 2 by decide), if_neg (show ¬ (8 : Int32) = 3 by decide), if_neg (show ¬ (8 : Int32) = 4 by decide), if_neg (show ¬ (8 : Int32) = 5 by decide), if_neg (show ¬ (8 : Int32) = 6 by decide), if_neg (show ¬ (8 : Int32) = 7 by decide), if_pos rfl, if_neg (show ¬ (7 : Int32) = 1 by decide), if_pos rfl, qX8_readStatement_38_222, m_readNumber (d + 3) A.1, e3, c_readFirst d A.1 (by omega) (by omega) (by omega)]
    by_cases h : σ2 4 p2 = nI 3
    · have hp2 := A.1.ltS (c := 3) (by omega) (by omega) h
      rw [if_pos h, if_pos h, zbI_some, zbI_some, if_pos (Or.inr rfl), zbI_some, if_pos (Or.inr rfl), zbI_some, if_neg n10, if_neg n10, if_neg (show ¬ (7 : Int32) = 1 by decide), qX8_readStatement_38_252, if_neg (show ¬ (7 : Int32) = 9 by decide), if_neg (show ¬ (7 : Int32) = 4 by decide), if_neg (show ¬ (7 : Int32) = 3 by decide), qX8_readStatement_38_282, if_neg (show ¬ (7 : Int32) = 3 by decide), qX8_readStatement_38_311, if_neg (show ¬ (7 : Int32) = 10 by decide), if_neg (show ¬ (7 : Int32) = 1 by decide), if_neg (show ¬ (7 : Int32) = 2 by decide)]
      have A2 := ((A.set (c := 10) (by omega) (σ2 6 p2)).w42 (k := 43) (by omega) (σ2 6 p2)).skip hp2
      have hg : wr (wr τ2 38 43 (σ2 6 p2)) 38 8 (nI (p2 + 1)) 38 43 = wr (wr σ2 10 ne (σ2 6 p2)) 3 4 (nI (p2 + 1)) 10 ne := by rw [wr_slot _ _ _ (by omega), wr_same, wr_cell _ _ _ (by omega), wr_same]
      rw [hg]
      exact t_finN (d + 1) 7 _ 0 A2 (by omega) (Or.inr (Or.inr (Or.inr (Or.inr (Or.inr ⟨rfl, rfl, rfl⟩)))))
    · rw [if_neg h, if_neg h, zbI_some, zbI_some, if_pos (Or.inl rfl), zbI_some, if_pos (Or.inl rfl), zbI_some, if_pos rfl, if_pos rfl]
      have := (A.set (c := 10) (by omega) (σ2 6 p2)).no
      rw [wr_cell _ _ _ (show 5 ≠ 10 by omega)] at this
      exact this
  · exact absurd rfl hv
  · -- wait
    rw [if_neg (show ¬ (3 : Int32) = 1 by decide), if_neg (show ¬ (3 : Int32) = 2 by decide), if_pos rfl, if_neg (show ¬ (9 : Int32) = 1 by decide), if_neg (show ¬ (9 : Int32) = 7 by decide), qX8_readStatement_38_252, if_pos rfl, m_readRegister (d + 3) A.1, e2, c_readFirst d A.1 (by omega) (by omega) (by omega)]
    by_cases h : σ2 4 p2 = nI 2
    · have hp2 := A.1.ltS (c := 2) (by omega) (by omega) h
      obtain ⟨x, hx, hxv⟩ := reg_val A.1 h
      rw [if_pos h, if_pos h, zbI_some, zbI_some, if_pos (Or.inr rfl), zbI_some, if_pos (Or.inr rfl), zbI_some, if_neg n10, if_neg n10, qX8_readStatement_38_282, if_neg (show ¬ (9 : Int32) = 3 by decide), qX8_readStatement_38_311, if_neg (show ¬ (9 : Int32) = 10 by decide), if_neg (show ¬ (9 : Int32) = 1 by decide), if_neg (show ¬ (9 : Int32) = 2 by decide)]
      have A2 := ((A.set (c := 10) (by omega) (σ2 6 p2)).w42 (k := 42) (by omega) (σ2 6 p2)).skip hp2
      have hg : wr (wr τ2 38 42 (σ2 6 p2)) 38 8 (nI (p2 + 1)) 38 42 = nI x := by rw [wr_slot _ _ _ (by omega), wr_same, hxv]
      have hg3 : wr (wr σ2 10 ne (σ2 6 p2)) 3 4 (nI (p2 + 1)) 10 ne = nI x := by rw [wr_cell _ _ _ (by omega), wr_same, hxv]
      rw [hg]
      exact t_finN (d + 1) 9 (nI x) 0 A2 (by omega) (Or.inl ⟨rfl, rfl, hg3.symm, x, hx, hg3⟩)
    · rw [if_neg h, if_neg h, zbI_some, zbI_some, if_pos (Or.inl rfl), zbI_some, if_pos (Or.inl rfl), zbI_some, if_pos rfl, if_pos rfl]
      have := (A.set (c := 10) (by omega) (σ2 6 p2)).no
      rw [wr_cell _ _ _ (show 5 ≠ 10 by omega)] at this
      exact this
end
theorem t_assign (d : Nat) {mm s sd : Nat} {σ τ : zS} {p dep ne ni nn nj nc : Nat} (H : PS mm s sd σ τ p dep ne ni nn nj nc) (hD : 30 * (11 - dep) + 40 ≤ d) (hk2 : σ 4 p = nI 2) (M : Nat) :
    SRes mm s sd σ τ p dep ne ni nn 0 (zbI (zM (d + 4) mX2_readAssignment [.inr (.inr 23), .inl (nI dep)] σ) (fun r6 s6 => if r6 = 0 then (some (1, 0, s6)) else (zbI (zM (d + 4) mX6_take [.inr (.inr 3), .inl 59] s6) (fun r7 s7 => if r7 = 0 then (some (1, 0, s7)) else (some (1, 1, s7))))))
      (zexec zc_X8_readStatement zu_X8_readStatement (zM (d + 4)) (M + 7) 108 [.inr (.inr 38)] (wr τ 38 14 (nI (nc + 1)))) := by
  obtain ⟨H, hnj, hnc, hjc, h2ne⟩ := H
  have hle := H.le
  have H0 := H
  obtain ⟨a1, a2, a3, a4, a5, a6, a7, a8, a9, a10, a11, a12, a13, a14, a15, a16, a17, a18, a19⟩ := H
  obtain ⟨r, hr, hrv⟩ := reg_val H0 hk2
  have hp := H0.ltS (c := 2) (by omega) (by omega) hk2
  obtain ⟨c1, c2, c3, c4, c5, c6, c7, c8, c9, c10⟩ := cE_fr σ ne ni 0 (nI r)
  have e61 : (61 : Int32) = nI 61 := rfl
  have HT0 : PB mm s sd σ (wr τ 38 14 (nI (nc + 1))) p dep ne ni nn := H0.w42 (by omega) _
  have hx1 : pFr σ (wr (cE σ ne ni 0 (nI r)) 3 4 (nI (p + 1))) ne ni := c1.tr ((xFr.next (ni := ni) (nI (p + 1))).p (ne + 1)) (by omega) (Nat.le_refl _)
  have hy1 : qFr sd τ (wr (wr (wr τ 38 14 (nI (nc + 1))) 38 42 (nI r)) 38 8 (nI (p + 1))) nn := ((qFr.w (by omega) _).tr (qFr.w (by omega) _) (Nat.le_refl _)).tr (qFr.w (by omega) _) (Nat.le_refl _)
  have H1 : PB mm s sd (wr (cE σ ne ni 0 (nI r)) 3 4 (nI (p + 1))) (wr (wr (wr τ 38 14 (nI (nc + 1))) 38 42 (nI r)) 38 8 (nI (p + 1))) (p + 1) dep (ne + 1) ni nn := H0.ofP hx1 hy1 (by rw [wr_same]) (by rw [wr_same]) (by omega) (by simp (disch := omega) only [lt_litR, lt_litL, eq_litR, eq_litL, lt_nn, eq_nn, lt_n0, z_cl, add_lit, eq_m1, eq_m1', m1_lt, false_or, or_false, if_pos, if_neg, zbI_some, zbV_some, wr_same, wr_cell, wr_slot, ne_eq, not_true_eq_false, not_false_eq_true, true_and, and_true, false_and, and_false, e10, e01, e00, if_true, if_false, Bool.false_eq_true, lit_ne, lit_lt, eq_self, a12]) a13 (by rw [wr_cell _ _ _ (by omega), c2]) (by omega) (by rw [wr_cell _ _ _ (by omega), c3, a16]) (by simp (disch := omega) only [lt_litR, lt_litL, eq_litR, eq_litL, lt_nn, eq_nn, lt_n0, z_cl, add_lit, eq_m1, eq_m1', m1_lt, false_or, or_false, if_pos, if_neg, zbI_some, zbV_some, wr_same, wr_cell, wr_slot, ne_eq, not_true_eq_false, not_false_eq_true, true_and, and_true, false_and, and_false, e10, e01, e00, if_true, if_false, Bool.false_eq_true, lit_ne, lit_lt, eq_self, a17]) (by omega) (by omega)
  obtain ⟨s', rfl⟩ : ∃ q, s = q + 1 := ⟨s - 1, by omega⟩
  have hτ42 : wr (wr (wr τ 38 14 (nI (nc + 1))) 38 42 (nI r)) 38 8 (nI (p + 1)) 38 42 = nI r := by simp (disch := omega) only [lt_litR, lt_litL, eq_litR, eq_litL, lt_nn, eq_nn, lt_n0, z_cl, add_lit, eq_m1, eq_m1', m1_lt, false_or, or_false, if_pos, if_neg, zbI_some, zbV_some, wr_same, wr_cell, wr_slot, ne_eq, not_true_eq_false, not_false_eq_true, true_and, and_true, false_and, and_false, e10, e01, e00, if_true, if_false, Bool.false_eq_true, lit_ne, lit_lt, eq_self]
  rw [qX2_readAssignment_23, qX2_readAssignment_23_0, c_value (d + 2) H0, zbI_some, hrv, c_addE (d + 2) a14 a16 (by omega), zbI_some, c_skip2 (d + 2) (p := p) (s := s') (by rw [c5, a9]) (by rw [c5, a6]) (by omega) (by omega), zbV_some, qX8_readStatement_38_108, m_readRegister (d + 2) HT0, if_pos hk2, hrv, zbI_some, if_neg n10, e61, (t_take (d + 1) H1 (c := 61) (by omega) (by omega)).1, m_want (d + 1) H1 (c := 61) (by omega) (by omega), hτ42]
  generalize hσ1 : wr (cE σ ne ni 0 (nI r)) 3 4 (nI (p + 1)) = σ1 at *
  generalize hτ1 : wr (wr (wr τ 38 14 (nI (nc + 1))) 38 42 (nI r)) 38 8 (nI (p + 1)) = τ1 at *
  have f8 : σ1 8 ne = 0 ∧ σ1 9 ne = nI r ∧ σ1 12 ne = nI ni ∧ σ1 7 9 = nI nj := by
    rw [← hσ1]
    refine ⟨?_, ?_, ?_, ?_⟩
    · rw [wr_cell _ _ _ (by omega), c6]
    · rw [wr_cell _ _ _ (by omega), c7]
    · rw [wr_cell _ _ _ (by omega), c10]
    · rw [wr_cell _ _ _ (by omega), c4, hnj]
  have f14 : τ1 38 14 = nI (nc + 1) := by rw [← hτ1]; simp (disch := omega) only [lt_litR, lt_litL, eq_litR, eq_litL, lt_nn, eq_nn, lt_n0, z_cl, add_lit, eq_m1, eq_m1', m1_lt, false_or, or_false, if_pos, if_neg, zbI_some, zbV_some, wr_same, wr_cell, wr_slot, ne_eq, not_true_eq_false, not_false_eq_true, true_and, and_true, false_and, and_false, e10, e01, e00, if_true, if_false, Bool.false_eq_true, lit_ne, lit_lt, eq_self]
  by_cases h61 : σ1 4 (p + 1) = nI 61
  case neg =>
    rw [if_neg h61, if_neg h61, zbI_some, zbI_some, if_pos rfl, if_pos rfl, zbI_some, if_pos rfl]
    exact SRes.no H1 hx1 hy1
  have hp1 := H1.ltS (c := 61) (by omega) (by omega) h61
  obtain ⟨H2, gx2, gy2⟩ := H1.skip hp1
  rw [if_pos h61, if_pos h61, zbI_some, zbI_some, if_neg n10, if_neg n10]
  have hx2 : pFr σ (wr σ1 3 4 (nI (p + 1 + 1))) ne ni := hx1.tr (gx2.p (ne + 1)) (by omega) (Nat.le_refl _)
  have hy2 : qFr sd τ (wr τ1 38 8 (nI (p + 1 + 1))) nn := hy1.tr gy2.q (Nat.le_refl _)
  have g8 : wr σ1 3 4 (nI (p + 1 + 1)) 8 ne = 0 ∧ wr σ1 3 4 (nI (p + 1 + 1)) 9 ne = nI r ∧ wr σ1 3 4 (nI (p + 1 + 1)) 12 ne = nI ni ∧ wr σ1 3 4 (nI (p + 1 + 1)) 7 9 = nI nj := by
    rw [wr_cell _ _ _ (by omega), wr_cell _ _ _ (by omega), wr_cell _ _ _ (by omega), wr_cell _ _ _ (by omega)]; exact f8
  have g14 : wr τ1 38 8 (nI (p + 1 + 1)) 38 14 = nI (nc + 1) := by rw [wr_slot _ _ _ (by omega), f14]
  generalize hσ2 : wr σ1 3 4 (nI (p + 1 + 1)) = σ2 at *
  generalize hτ2 : wr τ1 38 8 (nI (p + 1 + 1)) = τ2 at *
  have hle2 := H2.le
  have b10 := H2.2.2.2.2.2.2.2.2.2.1
  have hin : ¬ (nI (p + 1 + 1) < 0 ∨ 402 ≤ p + 1 + 1) := nin (by omega) (by omega)
  obtain ⟨hpl, hk⟩ := H2.1 (p + 1 + 1) hle2.1
  rw [c_kind (d + 2) H2, zbI_some, b10, z_cl (by omega), if_neg hin, if_neg hin, if_neg hin]
  -- an X
  have setX : ¬ σ2 4 (p + 1 + 1) = 4 → SRes mm (s' + 1) sd σ τ p dep ne ni nn 0 (zbI (zbI (zM (d + 3) mX2_readX [.inr (.inr 23), .inl (nI dep)] σ2) (fun r10 s10 => if r10 = 0 ∨ r10 = 1 then (some (1, r10, s10)) else (none))) (fun r6 s6 => if r6 = 0 then (some (1, 0, s6)) else (zbI (zM (d + 4) mX6_take [.inr (.inr 3), .inl 59] s6) (fun r7 s7 => if r7 = 0 then (some (1, 0, s7)) else (some (1, 1, s7)))))) (zexec zc_X8_readStatement zu_X8_readStatement (zM (d + 4)) (M + 6) 172 [.inr (.inr 38), .inl (nI r)] τ2) := by
    intro _
    obtain ⟨rr, σ3, τ3, o1, o2, gx, gy, g⟩ := t_readX mm (s' + 1) sd (ne + 1) dep a13 (d + 3) (by omega) _ _ _ _ _ H2
    rw [qX8_readStatement_38_172, qX8_readStatement_38_206, if_neg (show ¬ (10 : Int32) = 1 by decide), if_neg (show ¬ (10 : Int32) = 7 by decide), qX8_readStatement_38_252, if_neg (show ¬ (10 : Int32) = 9 by decide), if_neg (show ¬ (10 : Int32) = 4 by decide), if_neg (show ¬ (10 : Int32) = 3 by decide), qX8_readStatement_38_282, if_neg (show ¬ (10 : Int32) = 3 by decide), qX8_readStatement_38_311, if_pos rfl, o1, zM_mono o2 (show d + 3 ≤ d + 4 by omega), zbI_some, zbI_some]
    rcases g with ⟨rfl, g⟩ | ⟨rfl, p1, ni1, nn1, x, H3, G3⟩
    · rw [if_pos (Or.inl rfl), zbI_some, if_pos rfl, if_pos rfl]
      exact SRes.no2 (hx2.tr (gx.p (ne + 1)) (by omega) (Nat.le_refl _)) (hy2.tr gy.q (Nat.le_refl _)) g
    · have hle3 := H3.le
      have gi := G3.ile
      have G30 := G3
      obtain ⟨q1, q2, q3, q4, q5, q6⟩ := G3
      rw [if_pos (Or.inr rfl), zbI_some, if_neg n10, if_neg n10, q5]
      have hE : ∀ c, 8 ≤ c → c ≤ 12 → σ3 c = σ2 c := fun c h1 h2 => gx.1 c (by omega) (by omega) (by omega) (by omega)
      refine t_fin (d + 1) 10 (nI r) 0 (nI x) H3 (hx2.tr (gx.p (ne + 1)) (by omega) (Nat.le_refl _)) (hy2.tr gy.q (Nat.le_refl _)) (by omega) (by omega) (by omega) q4 (by omega) h2ne hle.2.2.2.1 (nj := nj) (nc := nc + 1) ?_ ?_ (by omega) ?_
      · rw [gx.2.2.1 9 (by omega), g8.2.2.2]
      · rw [gy.2.1 14 (by omega) (by omega) (by omega) (by omega), g14]
      · obtain ⟨e0, e1, e2, e3, e4, e5, e6⟩ := mNd_at τ3 sd nn1 10 (nI r) 0 (nI x)
        refine ⟨by omega, by rw [hE 12 (by omega) (by omega), g8.2.2.1], by omega, by omega, Or.inl ⟨rfl, ⟨r, hr, by rw [hE 9 (by omega) (by omega), g8.2.1], e2⟩, Or.inl ⟨e1, by rw [hE 8 (by omega) (by omega), g8.1], x, e4, (G30.rx (by omega) (by omega)).nd _ _ _ _⟩⟩⟩
  rcases hk with ⟨h1, h2⟩ | ⟨h1, h2⟩ | ⟨r2, hr2, h1, h2, h3, h4⟩ | ⟨h1, h2, h3⟩ | ⟨h1, h2, h3⟩ | ⟨c, hc, hc2, h1, h2, h3⟩
  · rw [if_neg (show ¬ σ2 4 (p + 1 + 1) = 4 by rw [h1]; decide), h2, if_neg (show ¬ (0 : Int32) = 1 by decide)]
    exact setX (by rw [h1]; decide)
  · rw [if_neg (show ¬ σ2 4 (p + 1 + 1) = 4 by rw [h1]; decide)]
    rcases h2 with h2 | ⟨h2, h3⟩
    · rw [h2, if_neg (show ¬ (4 : Int32) = 1 by decide)]
      exact setX (by rw [h1]; decide)
    · obtain ⟨d', rfl⟩ : ∃ q, d = q + 2 := ⟨d - 2, by omega⟩
      rw [h2, h3, if_pos rfl, if_pos (show (0 : Int32) < 20 by decide), if_pos rfl, m_refuse (d' + 5) H2, zbI_some, if_pos (Or.inl rfl), c_noX d' H2 h1, zbI_some, if_pos (Or.inl rfl), zbI_some, if_pos rfl]
      exact SRes.no H2 hx2 hy2
  · rw [if_neg (show ¬ σ2 4 (p + 1 + 1) = 4 by rw [h1]; decide), h3, if_pos rfl, h4, if_neg (show ¬ nI (20 + r2) < 20 from nI_nlt (b := 20) (by omega) (by omega))]
    exact setX (by rw [h1]; decide)
  · rw [if_neg (show ¬ σ2 4 (p + 1 + 1) = 4 by rw [h1]; decide), h2, if_neg (show ¬ (2 : Int32) = 1 by decide)]
    exact setX (by rw [h1]; decide)
  · have h4 : σ2 4 (p + 1 + 1) = nI 4 := h1
    have hp2 := H2.ltS (c := 4) (by omega) (by omega) h4
    have A : AP mm (s' + 1) sd σ τ (wr σ2 8 ne (σ2 6 (p + 1 + 1))) τ2 p dep ne ni nn nj nc r (p + 1 + 1) (σ2 6 (p + 1 + 1)) := ⟨H2.set (by omega) _ _, hx2.tr (pFr.set (by omega) (Nat.le_refl _) _) (Nat.le_refl _) (Nat.le_refl ni), hy2, by omega, h2ne, hle.2.2.2.1, by omega, hr, by rw [wr_same], by rw [wr_cell _ _ _ (by omega), g8.2.1], by rw [wr_cell _ _ _ (by omega), g8.2.2.1], by rw [wr_cell _ _ _ (by omega), g8.2.2.2], g14⟩
    have A2 := A.skip hp2
    rw [if_pos h1, h2, if_pos rfl, c_value (d + 2) H2, zbI_some]
    by_cases h8 : τ2 42 (p + 1 + 1) = 8
    · have h9 : σ2 6 (p + 1 + 1) = 9 := by
        rw [h8] at h3
        rcases h3 with ⟨a, h⟩ | ⟨a, h⟩ | ⟨a, h⟩ | ⟨a, h⟩ | ⟨a, h⟩ | ⟨a, h⟩ | ⟨a, h⟩ | ⟨a, h⟩ | ⟨a, h⟩
        all_goals first | exact a | exact absurd h (by decide)
      rw [h8, h9, if_pos rfl, if_pos (show (8 : Int32) < 20 by decide), if_neg (show ¬ (8 : Int32) = 0 by decide), if_pos rfl, m_refuse (d + 3) H2, zbI_some, if_pos rfl, zbI_some, if_pos (Or.inl rfl)]
      exact SRes.no H2 hx2 hy2
    · have hv : τ2 42 (p + 1 + 1) < 20 ∧ ¬ τ2 42 (p + 1 + 1) = 0 ∧ ¬ τ2 42 (p + 1 + 1) = 10 ∧ ¬ σ2 6 (p + 1 + 1) = 9 := by
        rcases h3 with ⟨a, h⟩ | ⟨a, h⟩ | ⟨a, h⟩ | ⟨a, h⟩ | ⟨a, h⟩ | ⟨a, h⟩ | ⟨a, h⟩ | ⟨a, h⟩ | ⟨a, h⟩
        all_goals first | exact absurd h h8 | (rw [a, h]; exact ⟨by decide, by decide, by decide, by decide⟩)
      have hs2 : σ2 7 7 = nI (ne + 1) := H2.2.2.2.2.2.2.2.2.2.2.2.2.2.1
      rw [if_pos hv.1, if_neg hv.2.1, if_neg h8, if_neg hv.2.2.1, if_neg hv.2.2.2, c_setSort (d + 1) hs2 (by omega) (by omega), zbV_some, c_skip (d + 2) A.1 hp2, zbV_some, nI_1]
      exact t_rest d M A2 (by omega) hD h3 h8
  · rw [if_neg (show ¬ σ2 4 (p + 1 + 1) = 4 by rw [h1]; simp (disch := omega) only [lt_litR, lt_litL, eq_litR, eq_litL, lt_nn, eq_nn, lt_n0, z_cl, add_lit, eq_m1, eq_m1', m1_lt, false_or, or_false, if_pos, if_neg, zbI_some, zbV_some, wr_same, wr_cell, wr_slot, ne_eq, not_true_eq_false, not_false_eq_true, true_and, and_true, false_and, and_false, e10, e01, e00, if_true, if_false, Bool.false_eq_true, lit_ne, lit_lt, eq_self]; omega), h2, if_neg (show ¬ (3 : Int32) = 1 by decide)]
    exact setX (by rw [h1]; simp (disch := omega) only [lt_litR, lt_litL, eq_litR, eq_litL, lt_nn, eq_nn, lt_n0, z_cl, add_lit, eq_m1, eq_m1', m1_lt, false_or, or_false, if_pos, if_neg, zbI_some, zbV_some, wr_same, wr_cell, wr_slot, ne_eq, not_true_eq_false, not_false_eq_true, true_and, and_true, false_and, and_false, e10, e01, e00, if_true, if_false, Bool.false_eq_true, lit_ne, lit_lt, eq_self]; omega)
