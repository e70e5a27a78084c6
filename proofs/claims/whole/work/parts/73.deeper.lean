theorem zbI_mono {o o' : Option zR} {k k' : Int32 → zS → Option zR} {r : zR} (ho : ∀ r, o = some r → o' = some r) (hk : ∀ v s r, k v s = some r → k' v s = some r) (h : zbI o k = some r) : zbI o' k' = some r := by
  cases o with
  | none => cases h
  | some q =>
    rw [ho q rfl]
    obtain ⟨a, b, c⟩ := q
    rcases a with _ | _ | a
    · cases h
    · exact hk _ _ _ h
    · cases h
theorem zbV_mono {o o' : Option zR} {k k' : zS → Option zR} {r : zR} (ho : ∀ r, o = some r → o' = some r) (hk : ∀ s r, k s = some r → k' s = some r) (h : zbV o k = some r) : zbV o' k' = some r := by
  cases o with
  | none => cases h
  | some q =>
    rw [ho q rfl]
    obtain ⟨a, b, c⟩ := q
    rcases a with _ | a
    · exact hk _ _ h
    · cases h
theorem ite_mono {c : Prop} {i : Decidable c} {a a' b b' : Option zR} {r : zR} (h1 : a = some r → a' = some r) (h2 : b = some r → b' = some r) (h : @ite _ c i a b = some r) : @ite _ c i a' b' = some r := by
  by_cases hc : c
  · rw [if_pos hc] at h ⊢; exact h1 h
  · rw [if_neg hc] at h ⊢; exact h2 h
theorem zsw_mono {v : Int32} {k k' : Nat → Option zR} {d : Nat} {r : zR} (hk : ∀ t, k t = some r → k' t = some r) : ∀ {sw : List (Int32 × Nat)}, zsw v k d sw = some r → zsw v k' d sw = some r := by
  intro sw
  induction sw with
  | nil => intro h; exact hk _ h
  | cons a l ih => intro h; obtain ⟨x, t⟩ := a; exact ite_mono (hk t) ih h
theorem zinv_mono {call call' : zCall} {go go' : zGo} (hc : ∀ mi as σ r, call mi as σ = some r → call' mi as σ = some r) (hg : ∀ pc L st σ r, go pc L st σ = some r → go' pc L st σ = some r) {nx x y : Nat} {sw : List (Int32 × Nat)} {L : List (Nat × zV)} {st : List zV} {σ : zS} {r : zR} (h : zinv call go nx x y sw L st σ = some r) : zinv call' go' nx x y sw L st σ = some r := by
  unfold zinv at h ⊢
  exact ite_mono (fun h => h) (ite_mono (zbI_mono (fun r => hc _ _ _ r) (fun v s r => hg _ _ _ _ r)) (fun h => h)) h
theorem zinvV_mono {call call' : zCall} {go go' : zGo} (hc : ∀ mi as σ r, call mi as σ = some r → call' mi as σ = some r) (hg : ∀ pc L st σ r, go pc L st σ = some r → go' pc L st σ = some r) {nx x y : Nat} {sw : List (Int32 × Nat)} {L : List (Nat × zV)} {st : List zV} {σ : zS} {r : zR} (h : zinvV call go nx x y sw L st σ = some r) : zinvV call' go' nx x y sw L st σ = some r := by
  unfold zinvV at h ⊢
  exact ite_mono (fun h => h) (ite_mono (zbV_mono (fun r => hc _ _ _ r) (fun s r => hg _ _ _ _ r)) (fun h => h)) h
theorem zcopy_mono {go go' : zGo} (hg : ∀ pc L st σ r, go pc L st σ = some r → go' pc L st σ = some r) {nx : Nat} {L : List (Nat × zV)} {st : List zV} {σ : zS} {r : zR} (h : zcopy go nx L st σ = some r) : zcopy go' nx L st σ = some r := by
  unfold zcopy at h ⊢
  split at h
  · split at h
    · exact ite_mono (fun h => h) (hg _ _ _ _ _) h
    · cases h
  · cases h
theorem zscall_mono {go go' : zGo} (hg : ∀ pc L st σ r, go pc L st σ = some r → go' pc L st σ = some r) {nx x : Nat} {L : List (Nat × zV)} {st : List zV} {σ : zS} {r : zR} (h : zscall go nx x L st σ = some r) : zscall go' nx x L st σ = some r := by
  unfold zscall at h ⊢
  split at h
  · exact ite_mono (fun h => h) (hg _ _ _ _ _) h
  · exact ite_mono (fun h => h) (ite_mono (fun h => h) (hg _ _ _ _ _)) h
  · exact ite_mono (fun h => h) (hg _ _ _ _ _) h
  · cases h
theorem zstep_mono {call call' : zCall} {go go' : zGo} (hc : ∀ mi as σ r, call mi as σ = some r → call' mi as σ = some r) (hg : ∀ pc L st σ r, go pc L st σ = some r → go' pc L st σ = some r) (op : zO) (L : List (Nat × zV)) (st : List zV) (σ : zS) (r : zR) (h : zstep call go op L st σ = some r) : zstep call' go' op L st σ = some r := by
  obtain ⟨o, nx, x, y, z, k, sw⟩ := op
  unfold zstep at h ⊢
  simp only at h ⊢
  split at h
  all_goals first
    | exact hg _ _ _ _ _ h
    | exact zinv_mono hc hg h
    | exact zinvV_mono hc hg h
    | exact zcopy_mono hg h
    | exact zscall_mono hg h
    | (cases h; done)
    | exact ite_mono (hg _ _ _ _ _) (hg _ _ _ _ _) h
    | exact ite_mono (hg _ _ _ _ _) (fun h => h) h
    | (split at h <;> first | exact hg _ _ _ _ _ h | (cases h; done) | exact ite_mono (hg _ _ _ _ _) (hg _ _ _ _ _) h | exact ite_mono (hg _ _ _ _ _) (fun h => h) h | exact ite_mono (fun h => h) (hg _ _ _ _ _) h | exact zsw_mono (fun t => hg _ _ _ _ _) h | exact h | exact ite_mono (ite_mono (hg _ _ _ _ _) (fun h => h)) (fun h => h) h | (split at h <;> first | exact hg _ _ _ _ _ h | (cases h; done) | exact ite_mono (fun h => h) (hg _ _ _ _ _) h))
theorem zseg_mono {tab : List (Nat × zO)} {cut : List (Nat × List Nat)} {call call' : zCall} {kont kont' : Nat → List zV → zS → Option zR} (hc : ∀ mi as σ r, call mi as σ = some r → call' mi as σ = some r) (hk : ∀ pc vs σ r, kont pc vs σ = some r → kont' pc vs σ = some r) : ∀ (f : Nat) (pc : Nat) (L : List (Nat × zV)) (st : List zV) (σ : zS) (r : zR), zseg tab cut call kont f pc L st σ = some r → zseg tab cut call' kont' f pc L st σ = some r := by
  intro f
  induction f with
  | zero => intro pc L st σ r h; cases h
  | succ f ih =>
    intro pc L st σ r h
    unfold zseg at h ⊢
    by_cases hp : 10000 ≤ pc
    · rw [if_pos hp] at h ⊢
      split at h
      · split at h
        · exact hk _ _ _ _ h
        · cases h
      · cases h
    · rw [if_neg hp] at h ⊢
      split at h
      · cases h
      · exact zstep_mono hc ih _ _ _ _ _ h
theorem zexec_mono {tab : List (Nat × zO)} {cut : List (Nat × List Nat)} {call call' : zCall} (hc : ∀ mi as σ r, call mi as σ = some r → call' mi as σ = some r) : ∀ (n pc : Nat) (vs : List zV) (σ : zS) (r : zR), zexec tab cut call n pc vs σ = some r → zexec tab cut call' n pc vs σ = some r := by
  intro n
  induction n with
  | zero => intro pc vs σ r h; cases h
  | succ n ih =>
    intro pc vs σ r h
    unfold zexec at h ⊢
    split at h
    · cases h
    · exact ite_mono (zseg_mono hc ih _ _ _ _ _ _) (fun h => h) h
theorem zM_mono1 : ∀ (d mi : Nat) (as : List zV) (σ : zS) (r : zR), zM d mi as σ = some r → zM (d + 1) mi as σ = some r := by
  intro d
  induction d with
  | zero => intro mi as σ r h; cases h
  | succ d ih =>
    intro mi as σ r h
    rw [zM] at h ⊢
    split at h
    · cases h
    · exact ite_mono (zexec_mono ih _ _ _ _ _) (fun h => h) h
theorem zM_mono {d d' mi : Nat} {as : List zV} {σ : zS} {r : zR} (h : zM d mi as σ = some r) (hd : d ≤ d') : zM d' mi as σ = some r := by
  obtain ⟨c, rfl⟩ := Nat.exists_eq_add_of_le hd
  induction c with
  | zero => exact h
  | succ c ih => exact zM_mono1 _ _ _ _ _ (ih (by omega))
