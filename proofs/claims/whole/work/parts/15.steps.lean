-- steps of the small machine, for the equations
/-- a slot is written -/
def wr (σ : zS) (c k : Nat) (v : Int32) : zS := zset σ c (upd (σ c) k v)
/-- the first n of cell c go to cell d -/
def wcp (σ : zS) (c d n : Nat) : zS := zset σ d (va_cpy (σ c) (σ d) 0 0 n)
theorem zM_eq {d mi : Nat} {as : List zV} {σ : zS} {R : String} {y : MethodName} {n : Nat} {r : Option FieldType} {tab : List (Nat × zO)} {cut : List (Nat × List Nat)} {i : Nat} (h : zMT[mi]? = some ((R, y, n, r, tab, cut), i)) (h1 : zlook cut 0 = some (zplaces 0 as)) (h2 : zwords as ≤ n) : zM (d + 1) mi as σ = zexec tab cut (zM d) zFUEL 0 as σ := by
  simp only [zM, h, h1, h2, and_self, if_true]
section
variable {tab : List (Nat × zO)} {cut : List (Nat × List Nat)} {call : zCall} {kont : Nat → List zV → zS → Option zR} {go : zGo} {f n pc nx x y z : Nat} {k : Int32} {sw : List (Int32 × Nat)} {L : List (Nat × zV)} {st r : List zV} {σ : zS} {T T2 : Option zR} {op : zO}
theorem ze {vs : List zV} {ix : List Nat} (hl : zlook cut pc = some ix) (hn : ix.length = vs.length) (hz : ix.zip vs = L) (h : zseg tab cut call (zexec tab cut call n) 400 pc L [] σ = T) : zexec tab cut call (n + 1) pc vs σ = T := by
  simp only [zexec, hl, hn, if_true, hz, h]
theorem zx (hp : Nat.ble 10000 pc = false) (ho : zlook tab pc = some op) (h : zstep call (zseg tab cut call kont f) op L st σ = T) : zseg tab cut call kont (f + 1) pc L st σ = T := by
  have hn : ¬ 10000 ≤ pc := fun h9 => by rw [Nat.ble_eq_true_of_le h9] at hp; cases hp
  simp only [zseg, if_neg hn, ho, h]
theorem zxc {t : Nat} {vs : List zV} {ix : List Nat} (hp : Nat.ble 10000 pc = true) (ht : pc - 10000 = t) (hl : zlook cut t = some ix) (hv : zpick L ix = some vs) : zseg tab cut call kont (f + 1) pc L [] σ = kont t vs σ := by
  simp only [zseg, if_pos (Nat.le_of_ble_eq_true hp), ht, hl, hv]
theorem y0 (h : go nx L (.inl k :: st) σ = T) : zstep call go (0, nx, x, y, z, k, sw) L st σ = T := h
theorem y1 {v : Int32} (hg : zget L x = some (.inl v)) (h : go nx L (.inl v :: st) σ = T) : zstep call go (1, nx, x, y, z, k, sw) L st σ = T := by simp only [zstep, hg, h]
theorem y2 {v : Nat} (hg : zget L x = some (.inr (.inr v))) (h : go nx L (.inr (.inr v) :: st) σ = T) : zstep call go (2, nx, x, y, z, k, sw) L st σ = T := by simp only [zstep, hg, h]
theorem y3 {v : Int64} (hg : zget L x = some (.inr (.inl v))) (h : go nx L (.inr (.inl v) :: st) σ = T) : zstep call go (3, nx, x, y, z, k, sw) L st σ = T := by simp only [zstep, hg, h]
theorem y4 {v : Int32} {L' : List (Nat × zV)} (hL : zput L x (.inl v) = L') (h : go nx L' r σ = T) : zstep call go (4, nx, x, y, z, k, sw) L (.inl v :: r) σ = T := by simp only [zstep, hL, h]
theorem y6 {v : Int32} {L' : List (Nat × zV)} (hg : zget L x = some (.inl v)) (hL : zput L x (.inl (v + k)) = L') (h : go nx L' st σ = T) : zstep call go (6, nx, x, y, z, k, sw) L st σ = T := by simp only [zstep, hg, hL, h]
theorem y7 {a b v : Int32} (hv : zbin y a b = v) (h : go nx L (.inl v :: r) σ = T) : zstep call go (7, nx, x, y, z, k, sw) L (.inl b :: .inl a :: r) σ = T := by subst hv; exact h
theorem y8 {a v : Int32} (hv : zun y a = v) (h : go nx L (.inl v :: r) σ = T) : zstep call go (8, nx, x, y, z, k, sw) L (.inl a :: r) σ = T := by subst hv; exact h
theorem y90 {b : Int32} {a : Int64} (h : go nx L (.inr (.inl (a >>> (b.toInt64 &&& 63))) :: r) σ = T) : zstep call go (9, nx, x, 0, z, k, sw) L (.inl b :: .inr (.inl a) :: r) σ = T := h
theorem y91 {b : Int32} {a : Int64} (h : go nx L (.inr (.inl ((a.toUInt64 >>> (b.toInt64.toUInt64 &&& Int64.toUInt64 63)).toInt64)) :: r) σ = T) : zstep call go (9, nx, x, 1, z, k, sw) L (.inl b :: .inr (.inl a) :: r) σ = T := h
theorem y92 {a b : Int64} (h : go nx L (.inr (.inl (a &&& b)) :: r) σ = T) : zstep call go (9, nx, x, 2, z, k, sw) L (.inr (.inl b) :: .inr (.inl a) :: r) σ = T := h
theorem y93 {a : Int64} (h : go nx L (.inl a.toInt32 :: r) σ = T) : zstep call go (9, nx, x, 3, z, k, sw) L (.inr (.inl a) :: r) σ = T := h
theorem y12 (h : go x L st σ = T) : zstep call go (12, nx, x, y, z, k, sw) L st σ = T := h
theorem y13 {v : Int32} (h : zsw v (fun t => go t L r σ) x sw = T) : zstep call go (13, nx, x, y, z, k, sw) L (.inl v :: r) σ = T := h
theorem ysw {α : Type} {v c : Int32} {g : Nat → α} {d t : Nat} {s2 : List (Int32 × Nat)} {A B : α} (h1 : g t = A) (h2 : zsw v g d s2 = B) : zsw v g d ((c, t) :: s2) = if v = c then A else B := by simp only [zsw, h1, h2]
theorem yswd {α : Type} {v : Int32} {g : Nat → α} {d : Nat} {A : α} (h : g d = A) : zsw v g d [] = A := h
theorem y14 {c : Nat} {v : zV} (hg : zfld σ c x y = some v) (h : go nx L (v :: r) σ = T) : zstep call go (14, nx, x, y, z, k, sw) L (.inr (.inr c) :: r) σ = T := by simp only [zstep, hg, h]
theorem y15 {c : Nat} {v : Int32} (hw : zwr c x y = true) (h : go nx L r (wr σ c y v) = T) : zstep call go (15, nx, x, y, z, k, sw) L (.inl v :: .inr (.inr c) :: r) σ = T := by simp only [zstep, hw, if_true]; exact h
theorem y31 {c : Nat} {v : Int32} (hw : zwr c x y = true) (h : go nx L r (wr σ c y v) = T) : zstep call go (31, nx, x, y, z, k, sw) L (.inl v :: .inr (.inr c) :: r) σ = if v = 0 ∨ v = 1 then T else none := by simp only [zstep, hw, if_true]; rw [← h]; rfl
theorem y31l {c : Nat} {v : Int32} (hw : zwr c x y = true) (hv : v = 0 ∨ v = 1) (h : go nx L r (wr σ c y v) = T) : zstep call go (31, nx, x, y, z, k, sw) L (.inl v :: .inr (.inr c) :: r) σ = T := by rw [y31 hw h, if_pos hv]
theorem y16 {c m : Nat} {i v : Int32} (ha : zarr c y = some m) (hv : σ c i.toNatClampNeg = v) (h : go nx L (.inl v :: r) σ = T) : zstep call go (16, nx, x, y, z, k, sw) L (.inl i :: .inr (.inr c) :: r) σ = if i < 0 ∨ m ≤ i.toNatClampNeg then none else T := by subst hv; simp only [zstep, ha, h]
theorem y16l {c m : Nat} {i v : Int32} (ha : zarr c y = some m) (hi : ¬ (i < 0 ∨ m ≤ i.toNatClampNeg)) (hv : σ c i.toNatClampNeg = v) (h : go nx L (.inl v :: r) σ = T) : zstep call go (16, nx, x, y, z, k, sw) L (.inl i :: .inr (.inr c) :: r) σ = T := by rw [y16 ha hv h, if_neg hi]
theorem y17 {c m : Nat} {i v : Int32} (ha : zarr c 0 = some m) (h : go nx L r (wr σ c i.toNatClampNeg v) = T) : zstep call go (17, nx, x, 0, z, k, sw) L (.inl v :: .inl i :: .inr (.inr c) :: r) σ = if i < 0 ∨ m ≤ i.toNatClampNeg then none else T := by simp only [zstep, ha]; rw [← h]; rfl
theorem y17l {c m : Nat} {i v : Int32} (ha : zarr c 0 = some m) (hi : ¬ (i < 0 ∨ m ≤ i.toNatClampNeg)) (h : go nx L r (wr σ c i.toNatClampNeg v) = T) : zstep call go (17, nx, x, 0, z, k, sw) L (.inl v :: .inl i :: .inr (.inr c) :: r) σ = T := by rw [y17 ha h, if_neg hi]
theorem y17c {c m : Nat} {i v : Int32} (ha : zarr c 1 = some m) (h : go nx L r (wr σ c i.toNatClampNeg (vp_nar .char v)) = T) : zstep call go (17, nx, x, 1, z, k, sw) L (.inl v :: .inl i :: .inr (.inr c) :: r) σ = if i < 0 ∨ m ≤ i.toNatClampNeg then none else T := by simp only [zstep, ha]; rw [← h]; rfl
theorem ynot {a b c : Nat} (h1 : Nat.ble b a = true) (h2 : Nat.ble c 8 = true) : ¬ (a < b ∨ 8 < c) := by
  have := Nat.le_of_ble_eq_true h1
  have := Nat.le_of_ble_eq_true h2
  omega
theorem y18 {as : List zV} {K : Int32 → zS → Option zR} (g1 : Nat.ble y st.length = true) (g2 : Nat.ble ((st.drop y).map zcat).sum 8 = true) (h2 : (st.take y).reverse = as) (h3 : zrecv sw as = true) (h4 : st.drop y = r) (h : ∀ v s, go nx L (.inl v :: r) s = K v s) : zstep call go (18, nx, x, y, z, k, sw) L st σ = zbI (call x as σ) K := by
  subst h4
  have h1 := ynot g1 g2
  simp only [zstep, zinv, if_neg h1, h2, h3, if_true]
  exact congrArg _ (funext fun v => funext fun s => h v s)
theorem y30 {as : List zV} {K : zS → Option zR} (g1 : Nat.ble y st.length = true) (g2 : Nat.ble ((st.drop y).map zcat).sum 8 = true) (h2 : (st.take y).reverse = as) (h3 : zrecv sw as = true) (h4 : st.drop y = r) (h : ∀ s, go nx L r s = K s) : zstep call go (30, nx, x, y, z, k, sw) L st σ = zbV (call x as σ) K := by
  subst h4
  have h1 := ynot g1 g2
  simp only [zstep, zinvV, if_neg h1, h2, h3, if_true]
  exact congrArg _ (funext fun s => h s)
theorem y19 {v : Int32} : zstep call go (19, nx, x, 0, z, k, sw) L [.inl v] σ = some (1, v, σ) := rfl
theorem y19b {v : Int32} : zstep call go (19, nx, x, 1, z, k, sw) L [.inl v] σ = if v = 0 ∨ v = 1 then some (1, v, σ) else none := rfl
theorem y19l {v : Int32} (hv : v = 0 ∨ v = 1) : zstep call go (19, nx, x, 1, z, k, sw) L [.inl v] σ = some (1, v, σ) := by rw [y19b, if_pos hv]
theorem y20 : zstep call go (20, nx, x, y, z, k, sw) L [] σ = some (0, 0, σ) := rfl
theorem y21 {v : zV} (hc : zcat v = 1) (h : go nx L (v :: v :: r) σ = T) : zstep call go (21, nx, x, y, z, k, sw) L (v :: r) σ = T := by simp only [zstep, hc, if_true, h]
theorem y22 {v : zV} (hc : zcat v = 1) (h : go nx L r σ = T) : zstep call go (22, nx, x, y, z, k, sw) L (v :: r) σ = T := by simp only [zstep, hc, if_true, h]
theorem y23 {v w : zV} (hc : zcat v = 1 ∧ zcat w = 1) (h : go nx L (v :: w :: v :: w :: r) σ = T) : zstep call go (23, nx, x, y, z, k, sw) L (v :: w :: r) σ = T := by simp only [zstep, hc, and_self, if_true, h]
theorem y24 {c m : Nat} (ha : zarr c 0 = some m) (h : go nx L (.inl (Int32.ofNat m) :: r) σ = T) : zstep call go (24, nx, x, y, z, k, sw) L (.inr (.inr c) :: r) σ = T := by simp only [zstep, ha, h]
theorem y26 (h : go nx L (.inr (.inl k.toInt64) :: st) σ = T) : zstep call go (26, nx, x, y, z, k, sw) L st σ = T := h
theorem y27 (hy : y < 10) (h : go nx L (.inr (.inr (1000 + y)) :: st) σ = T) : zstep call go (27, nx, x, y, z, k, sw) L st σ = T := by simp only [zstep, hy, if_true, h]
theorem y29 : zstep call go (29, nx, x, y, z, k, sw) L [] σ = some (2, 0, σ) := rfl
theorem y32 {a : Int32} (h1 : go x L r σ = T) (h2 : go nx L r σ = T2) : zstep call go (32, nx, x, y, z, k, sw) L (.inl a :: r) σ = if a = 0 then T else T2 := by simp only [zstep, h1, h2]
theorem y33 {a : Int32} (h1 : go x L r σ = T) (h2 : go nx L r σ = T2) : zstep call go (33, nx, x, y, z, k, sw) L (.inl a :: r) σ = if a < 0 then T else T2 := by simp only [zstep, h1, h2]
theorem y34 {a : Int32} (h1 : go x L r σ = T) (h2 : go nx L r σ = T2) : zstep call go (34, nx, x, y, z, k, sw) L (.inl a :: r) σ = if 0 < a then T else T2 := by simp only [zstep, h1, h2]
theorem y35 {a b : Int32} (h1 : go x L r σ = T) (h2 : go nx L r σ = T2) : zstep call go (35, nx, x, y, z, k, sw) L (.inl b :: .inl a :: r) σ = if a = b then T else T2 := by simp only [zstep, h1, h2]
theorem y36 {a b : Int32} (h1 : go x L r σ = T) (h2 : go nx L r σ = T2) : zstep call go (36, nx, x, y, z, k, sw) L (.inl b :: .inl a :: r) σ = if a < b then T else T2 := by simp only [zstep, h1, h2]
theorem y37 {a b : Int32} (h1 : go x L r σ = T) (h2 : go nx L r σ = T2) : zstep call go (37, nx, x, y, z, k, sw) L (.inl b :: .inl a :: r) σ = if b < a then T else T2 := by simp only [zstep, h1, h2]
theorem y25 {c d n0 n1 m : Nat} {v : Int32} (h0 : zarr c 0 = some n0) (h1 : zarr d 0 = some n1) (hc : ¬ ((0 : Int32) < 0 ∨ (0 : Int32) < 0 ∨ v < 0 ∨ n0 < (0 : Int32).toNatClampNeg + v.toNatClampNeg ∨ n1 < (0 : Int32).toNatClampNeg + v.toNatClampNeg ∨ 8 < (r.map zcat).sum)) (hm : v.toNatClampNeg = m) (h : go nx L r (wcp σ c d m) = T) : zstep call go (25, nx, x, y, z, k, sw) L (.inl v :: .inl 0 :: .inr (.inr d) :: .inl 0 :: .inr (.inr c) :: r) σ = T := by
  subst hm
  simp only [zstep, zcopy, h0, h1, if_neg hc]
  exact h
theorem yst {c s : Nat} (h1 : Nat.ble 1000 c = true) (h2 : Nat.ble 1010 c = false) (h3 : Nat.ble s 8 = true) : ¬ (c < 1000) ∧ ¬ (1010 ≤ c) ∧ ¬ (8 < s) := by
  have a1 := Nat.le_of_ble_eq_true h1
  have a3 := Nat.le_of_ble_eq_true h3
  have a2 : ¬ 1010 ≤ c := fun h9 => by rw [Nat.ble_eq_true_of_le h9] at h2; cases h2
  omega
theorem y280 {c : Nat} {v : Int32} (h1 : Nat.ble 1000 c = true) (h2 : Nat.ble 1010 c = false) (h3 : Nat.ble ((r.map zcat).sum) 8 = true) (hv : Int32.ofNat (zstr (c - 1000)).length = v) (h : go nx L (.inl v :: r) σ = T) : zstep call go (28, nx, 0, y, z, k, sw) L (.inr (.inr c) :: r) σ = T := by
  obtain ⟨a1, a2, a3⟩ := yst h1 h2 h3
  simp only [zstep, zscall, a1, a2, a3, or_self, if_false, hv, h]
theorem y281 {c m : Nat} {i v : Int32} (h1 : Nat.ble 1000 c = true) (h2 : Nat.ble 1010 c = false) (h3 : Nat.ble ((r.map zcat).sum) 8 = true) (hm : (zstr (c - 1000)).length = m) (hv : (zstr (c - 1000)).getD i.toNatClampNeg 0 = v) (h : go nx L (.inl v :: r) σ = T) : zstep call go (28, nx, 1, y, z, k, sw) L (.inl i :: .inr (.inr c) :: r) σ = if i < 0 ∨ m ≤ i.toNatClampNeg then none else T := by
  obtain ⟨a1, a2, a3⟩ := yst h1 h2 h3
  simp only [zstep, zscall, a1, a2, a3, or_self, if_false, hm, hv, h]
theorem y282 {c : Nat} {i v : Int32} (h1 : Nat.ble 1000 c = true) (h2 : Nat.ble 1010 c = false) (h3 : Nat.ble ((r.map zcat).sum) 8 = true) (hv : zixF i (zstr (c - 1000)) 0 = v) (h : go nx L (.inl v :: r) σ = T) : zstep call go (28, nx, 2, y, z, k, sw) L (.inl i :: .inr (.inr c) :: r) σ = if i < 0 ∨ 256 ≤ i then none else T := by
  obtain ⟨a1, a2, a3⟩ := yst h1 h2 h3
  simp only [zstep, zscall, a1, a2, a3, false_or, hv, h]
theorem yif {c : Prop} {i : Decidable c} {A B : Option zR} (hc : c) (h : A = T) : @ite _ c i A B = T := by rw [if_pos hc, h]
theorem yel {c : Prop} {i : Decidable c} {A B : Option zR} (hc : ¬ c) (h : B = T) : @ite _ c i A B = T := by rw [if_neg hc, h]
end
