-- the world that the image stands for
def zflds (a : Nat → Nat) (f : Nat → Int32) : Nat → List (Option Nat) → List Value
  | _, [] => []
  | k, none :: r => .int (f k) :: zflds a f (k + 1) r
  | k, some t :: r => .ref (a t) :: zflds a f (k + 1) r
def zcell (a : Nat → Nat) (kI kC : ClassId) (f : Nat → Int32) (i : zI) : va_E := match i with
  | .inl (ci, fl) => .inr (ci, zflds a f 0 fl)
  | .inr (ty, n) => .inl (if ty = 0 then kI else kC, n, .inl f)
def zWSf (a : Nat → Nat) (kI kC : ClassId) (σ : zS) : Nat → List zI → va_W
  | _, [] => []
  | j, i :: r => (a j, zcell a kI kC (σ j) i) :: zWSf a kI kC σ (j + 1) r
def zWS (a : Nat → Nat) (kI kC : ClassId) (σ : zS) : va_W := zWSf a kI kC σ 0 zIMG
def ztys (kI kC : ClassId) : List (ClassId × FieldType) := [(kI, .int), (kC, .char)]
def zA (a : Nat → Nat) : Nat → Prop := fun q => ∃ j, j < zIMG.length ∧ q = a j
theorem zWSf_get (a : Nat → Nat) (kI kC : ClassId) (σ : zS) : ∀ (l : List zI) (b j : Nat), (zWSf a kI kC σ b l)[j]? = (l[j]?).map (fun i => (a (b + j), zcell a kI kC (σ (b + j)) i)) := by
  intro l
  induction l with
  | nil => intro b j; simp [zWSf]
  | cons i r ih =>
    intro b j
    cases j with
    | zero => simp [zWSf]
    | succ j => simp only [zWSf, List.getElem?_cons_succ, ih, Nat.add_assoc, Nat.add_comm 1 j]
theorem zWS_get {a : Nat → Nat} {kI kC : ClassId} {σ : zS} {j : Nat} {i : zI} (h : zIMG[j]? = some i) : (zWS a kI kC σ)[j]? = some (a j, zcell a kI kC (σ j) i) := by
  rw [zWS, zWSf_get, h]; simp
theorem zWS_some {a : Nat → Nat} {kI kC : ClassId} {σ : zS} {j : Nat} {q : Nat × va_E} (h : (zWS a kI kC σ)[j]? = some q) : ∃ i, zIMG[j]? = some i ∧ q = (a j, zcell a kI kC (σ j) i) := by
  rw [zWS, zWSf_get] at h
  cases hi : zIMG[j]? with
  | none => rw [hi] at h; cases h
  | some i => rw [hi] at h; simp at h; exact ⟨i, rfl, h.symm⟩
theorem zset_self (σ : zS) (c : Nat) (f : Nat → Int32) : zset σ c f c = f := by simp [zset]
theorem zset_ne (σ : zS) {c d : Nat} (f : Nat → Int32) (h : d ≠ c) : zset σ c f d = σ d := by simp [zset, h]
theorem zWS_set {a : Nat → Nat} {kI kC : ClassId} {σ : zS} {j : Nat} {i : zI} {f : Nat → Int32} (h : zIMG[j]? = some i) : (zWS a kI kC σ).set j (a j, zcell a kI kC f i) = zWS a kI kC (zset σ j f) := by
  apply List.ext_getElem?
  intro k
  by_cases hk : k = j
  · subst hk
    rw [zWS_get h, zset_self]
    have : k < (zWS a kI kC σ).length := by
      have h2 := zWS_get (a := a) (kI := kI) (kC := kC) (σ := σ) h
      exact (List.getElem?_eq_some_iff.mp h2).1
    simp [List.getElem?_set_self, this]
  · rw [List.getElem?_set_ne (by omega), zWS, zWSf_get, zWS, zWSf_get]
    simp [zset_ne σ f hk]
theorem zflds_int {a : Nat → Nat} {f : Nat → Int32} : ∀ (fl : List (Option Nat)) (b k : Nat), fl[k]? = some none → (zflds a f b fl)[k]? = some (.int (f (b + k))) := by
  intro fl
  induction fl with
  | nil => intro b k h; simp at h
  | cons x r ih =>
    intro b k h
    cases k with
    | zero => simp at h; subst h; simp [zflds]
    | succ k =>
      simp at h
      have := ih (b + 1) k h
      cases x <;> simp [zflds, this, Nat.add_assoc, Nat.add_comm 1 k]
theorem zflds_ref {a : Nat → Nat} {f : Nat → Int32} {t : Nat} : ∀ (fl : List (Option Nat)) (b k : Nat), fl[k]? = some (some t) → (zflds a f b fl)[k]? = some (.ref (a t)) := by
  intro fl
  induction fl with
  | nil => intro b k h; simp at h
  | cons x r ih =>
    intro b k h
    cases k with
    | zero => simp at h; subst h; simp [zflds]
    | succ k =>
      simp at h
      have := ih (b + 1) k h
      cases x <;> simp [zflds, this]
theorem zflds_up {a : Nat → Nat} {f g : Nat → Int32} : ∀ (fl : List (Option Nat)) (b : Nat), (∀ k, b ≤ k → f k = g k) → zflds a f b fl = zflds a g b fl := by
  intro fl
  induction fl with
  | nil => intro b h; rfl
  | cons x r ih =>
    intro b h
    cases x <;> simp [zflds, ih (b + 1) (fun k hk => h k (by omega)), h b (Nat.le_refl b)]
theorem zflds_set {a : Nat → Nat} {f : Nat → Int32} {v : Int32} : ∀ (fl : List (Option Nat)) (b k : Nat), fl[k]? = some none → (zflds a f b fl).set k (.int v) = zflds a (upd f (b + k) v) b fl := by
  intro fl
  induction fl with
  | nil => intro b k h; simp at h
  | cons x r ih =>
    intro b k h
    cases k with
    | zero =>
      simp at h; subst h
      simp only [zflds, List.set_cons_zero, Nat.add_zero]
      rw [zflds_up (f := f) (g := upd f b v) r (b + 1) (fun k hk => by simp [upd]; intro h; omega)]
      simp [upd]
    | succ k =>
      simp at h
      have h1 := ih (b + 1) k h
      have e1 : b + 1 + k = b + (k + 1) := by omega
      rw [e1] at h1
      cases x with
      | none => simp only [zflds, List.set_cons_succ, h1]; simp [upd]
      | some t => simp only [zflds, List.set_cons_succ, h1]
theorem zlen_flds {a : Nat → Nat} {f : Nat → Int32} : ∀ (fl : List (Option Nat)) (b : Nat), (zflds a f b fl).length = fl.length := by
  intro fl
  induction fl with
  | nil => intro b; rfl
  | cons x r ih => intro b; cases x <;> simp [zflds, ih]
theorem zD {a : Nat → Nat} {kI kC : ClassId} {A : Nat → Prop} (hinj : ∀ i j, i < zIMG.length → j < zIMG.length → a i = a j → i = j) (hA : ∀ j, j < zIMG.length → A (a j)) (σ : zS) : va_D A (zWS a kI kC σ) := by
  refine ⟨fun i j p q hp hq he => ?_, fun k q hq => ?_⟩
  · obtain ⟨x, hx, rfl⟩ := zWS_some hp
    obtain ⟨y, hy, rfl⟩ := zWS_some hq
    exact hinj i j (List.getElem?_eq_some_iff.mp hx).1 (List.getElem?_eq_some_iff.mp hy).1 he
  · obtain ⟨x, hx, rfl⟩ := zWS_some hq
    exact hA k (List.getElem?_eq_some_iff.mp hx).1
/-- the locals -/
def zLd (a : Nat → Nat) (L : List (Nat × zV)) : List (Nat × Value) := L.map (fun q => (q.1, zden a q.2))
theorem zcat_den (a : Nat → Nat) (v : zV) : (zden a v).category = zcat v := by
  rcases v with x | x | x <;> rfl
theorem zLd_put (a : Nat → Nat) (L : List (Nat × zV)) (i : Nat) (v : zV) : zLd a (zput L i v) = (i, zden a v) :: (zLd a L).filter (fun q => !(q.1 == i) && !(q.1 + 1 == i && q.2.category == 2)) := by
  simp only [zLd, zput, List.map_cons, List.filter_map]
  congr 2
  apply List.filter_congr
  intro q _
  simp [zcat_den]
theorem zget_mem : ∀ {L : List (Nat × zV)} {i : Nat} {v : zV}, zget L i = some v → (i, v) ∈ L := by
  intro L
  induction L with
  | nil => intro i v h; cases h
  | cons q r ih =>
    intro i v h
    obtain ⟨j, w⟩ := q
    simp only [zget] at h
    split at h
    · next e => cases h; subst e; exact List.mem_cons_self
    · exact List.mem_cons_of_mem _ (ih h)
theorem zget_ls {a : Nat → Nat} {ls : Array Slot} {nL : Nat} {L : List (Nat × zV)} {i : Nat} {v : zV} (hl : lv_has ls nL (zLd a L)) (h : zget L i = some v) : ls[i]? = some (.val (zden a v)) :=
  hl.2.2 (i, zden a v) (List.mem_map.mpr ⟨(i, v), zget_mem h, rfl⟩)
theorem zpick_ls {a : Nat → Nat} {ls : Array Slot} {nL : Nat} {L : List (Nat × zV)} (hl : lv_has ls nL (zLd a L)) : ∀ {ix : List Nat} {vs : List zV}, zpick L ix = some vs → lv_has ls nL (zLd a (ix.zip vs)) ∧ ix.length = vs.length := by
  intro ix
  induction ix with
  | nil => intro vs h; cases h; exact ⟨⟨hl.1, hl.2.1, fun q hq => by simp [zLd] at hq⟩, rfl⟩
  | cons i r ih =>
    intro vs h
    simp only [zpick] at h
    split at h
    · cases h
    · next v hv =>
      split at h
      · cases h
      · next ws hw =>
        cases h
        obtain ⟨h1, h2⟩ := ih hw
        refine ⟨⟨hl.1, hl.2.1, fun q hq => ?_⟩, by simp [h2]⟩
        simp only [zLd, List.zip_cons_cons, List.map_cons, List.mem_cons] at hq
        rcases hq with rfl | hq
        · exact zget_ls hl hv
        · exact h1.2.2 q hq
theorem zlook_mem {α : Type} : ∀ {l : List (Nat × α)} {i : Nat} {v : α}, zlook l i = some v → (i, v) ∈ l := by
  intro l
  induction l with
  | nil => intro i v h; cases h
  | cons q r ih =>
    intro i v h
    obtain ⟨j, w⟩ := q
    simp only [zlook] at h
    split at h
    · next e => cases h; subst e; exact List.mem_cons_self
    · exact List.mem_cons_of_mem _ (ih h)
