-- a small machine over the image: what a method does, as a function of numbers
def zset (σ : zS) (c : Nat) (f : Nat → Int32) : zS := fun d => if d = c then f else σ d
def zcat (v : zV) : Nat := match v with
  | .inr (.inl _) => 2
  | _ => 1
def zden (a : Nat → Nat) (v : zV) : Value := match v with
  | .inl x => .int x
  | .inr (.inl x) => .long x
  | .inr (.inr c) => .ref (a c)
def zget : List (Nat × zV) → Nat → Option zV
  | [], _ => none
  | (j, v) :: r, i => if j = i then some v else zget r i
def zpick (L : List (Nat × zV)) : List Nat → Option (List zV)
  | [] => some []
  | i :: r => match zget L i with
    | none => none
    | some v => match zpick L r with
      | none => none
      | some vs => some (v :: vs)
def zput (L : List (Nat × zV)) (i : Nat) (v : zV) : List (Nat × zV) := (i, v) :: L.filter (fun q => !(q.1 == i) && !(q.1 + 1 == i && zcat q.2 == 2))
def zlook {α : Type} : List (Nat × α) → Nat → Option α
  | [], _ => none
  | (j, v) :: r, i => if j = i then some v else zlook r i
abbrev zbin (y : Nat) (a b : Int32) : Int32 := match y with
  | 0 => a + b
  | 1 => a - b
  | 2 => a * b
  | 3 => a &&& b
  | 4 => a ||| b
  | _ => a <<< (b &&& 31)
abbrev zun (y : Nat) (a : Int32) : Int32 := match y with
  | 0 => -a
  | _ => (a.toUInt32 % 65536).toInt32
def zsw {α : Type} (v : Int32) (k : Nat → α) (d : Nat) : List (Int32 × Nat) → α
  | [] => k d
  | (x, t) :: r => if v = x then k t else zsw v k d r
def zfld (σ : zS) (c ci k : Nat) : Option zV := match zIMG[c]? with
  | some (.inl (cj, fl)) => if cj = ci then (match fl[k]? with
    | some none => some (.inl (σ c k))
    | some (some t) => some (.inr (.inr t))
    | none => none) else none
  | _ => none
def zwr (c ci k : Nat) : Bool := match zIMG[c]? with
  | some (.inl (cj, fl)) => cj == ci && fl[k]? == some none
  | _ => false
def zarr (c ty : Nat) : Option Nat := match zIMG[c]? with
  | some (.inr (t, n)) => if t = ty then some n else none
  | _ => none
def zcls (c ci : Nat) : Bool := match zIMG[c]? with
  | some (.inl (cj, _)) => cj == ci
  | _ => false
/-- the String constants of the tokens -/
def zstr (i : Nat) : List Int32 := match i with
  | 0 => [97, 99, 116]
  | 1 => [116, 105, 109, 101, 114]
  | 2 => [97, 110, 121]
  | 3 => [101, 110, 100, 101, 100]
  | 4 => [115, 105, 103]
  | 5 => [110, 111, 119]
  | 6 => [112, 97, 116, 99, 104]
  | 7 => [115, 116, 111, 112]
  | 8 => [119, 97, 105, 116]
  | _ => [59, 61, 43, 45, 42, 60, 40, 41, 63, 91, 93, 124, 44, 64]
def zixF (c : Int32) : List Int32 → Int32 → Int32
  | [], _ => -1
  | b :: l, k => if b = c then k else zixF c l (k + 1)
abbrev zGo : Type := Nat → List (Nat × zV) → List zV → zS → Option zR
abbrev zCall : Type := Nat → List zV → zS → Option zR
def zrecv (sw : List (Int32 × Nat)) (as : List zV) : Bool := match sw, as with
  | [], _ => true
  | (_, ci) :: _, .inr (.inr c) :: _ => zcls c ci
  | _, _ => false
def zbV (o : Option zR) (k : zS → Option zR) : Option zR := match o with
  | some (0, _, σ') => k σ'
  | _ => none
def zbI (o : Option zR) (k : Int32 → zS → Option zR) : Option zR := match o with
  | some (1, r, σ') => k r σ'
  | _ => none
def zinv (call : zCall) (go : zGo) (nx x y : Nat) (sw : List (Int32 × Nat)) (L : List (Nat × zV)) (st : List zV) (σ : zS) : Option zR :=
  if st.length < y ∨ 8 < ((st.drop y).map zcat).sum then none
  else if zrecv sw (st.take y).reverse then zbI (call x (st.take y).reverse σ) (fun r σ' => go nx L (.inl r :: st.drop y) σ') else none
def zinvV (call : zCall) (go : zGo) (nx x y : Nat) (sw : List (Int32 × Nat)) (L : List (Nat × zV)) (st : List zV) (σ : zS) : Option zR :=
  if st.length < y ∨ 8 < ((st.drop y).map zcat).sum then none
  else if zrecv sw (st.take y).reverse then zbV (call x (st.take y).reverse σ) (fun σ' => go nx L (st.drop y) σ') else none
def zcopy (go : zGo) (nx : Nat) (L : List (Nat × zV)) (st : List zV) (σ : zS) : Option zR := match st with
  | .inl n :: .inl dp :: .inr (.inr d) :: .inl sp :: .inr (.inr c) :: r => match zarr c 0, zarr d 0 with
    | some n0, some n1 => if sp < 0 ∨ dp < 0 ∨ n < 0 ∨ n0 < sp.toNatClampNeg + n.toNatClampNeg ∨ n1 < dp.toNatClampNeg + n.toNatClampNeg ∨ 8 < (r.map zcat).sum then none
      else go nx L r (zset σ d (va_cpy (σ c) (σ d) sp.toNatClampNeg dp.toNatClampNeg n.toNatClampNeg))
    | _, _ => none
  | _ => none
def zscall (go : zGo) (nx x : Nat) (L : List (Nat × zV)) (st : List zV) (σ : zS) : Option zR := match x, st with
  | 0, .inr (.inr c) :: r => if c < 1000 ∨ 1010 ≤ c ∨ 8 < (r.map zcat).sum then none else go nx L (.inl (Int32.ofNat (zstr (c - 1000)).length) :: r) σ
  | 1, .inl i :: .inr (.inr c) :: r => if c < 1000 ∨ 1010 ≤ c ∨ 8 < (r.map zcat).sum then none else if i < 0 ∨ (zstr (c - 1000)).length ≤ i.toNatClampNeg then none else go nx L (.inl ((zstr (c - 1000)).getD i.toNatClampNeg 0) :: r) σ
  | 2, .inl v :: .inr (.inr c) :: r => if c < 1000 ∨ 1010 ≤ c ∨ 8 < (r.map zcat).sum ∨ v < 0 ∨ 256 ≤ v then none else go nx L (.inl (zixF v (zstr (c - 1000)) 0) :: r) σ
  | _, _ => none
def zstep (call : zCall) (go : zGo) (op : zO) (L : List (Nat × zV)) (st : List zV) (σ : zS) : Option zR :=
  match op with
  | (o, nx, x, y, _, k, sw) => match o with
    | 0 => go nx L (.inl k :: st) σ
    | 1 => match zget L x with
      | some (.inl v) => go nx L (.inl v :: st) σ
      | _ => none
    | 2 => match zget L x with
      | some (.inr (.inr c)) => go nx L (.inr (.inr c) :: st) σ
      | _ => none
    | 3 => match zget L x with
      | some (.inr (.inl v)) => go nx L (.inr (.inl v) :: st) σ
      | _ => none
    | 4 => match st with
      | .inl v :: r => go nx (zput L x (.inl v)) r σ
      | _ => none
    | 6 => match zget L x with
      | some (.inl v) => go nx (zput L x (.inl (v + k))) st σ
      | _ => none
    | 7 => match st with
      | .inl b :: .inl a :: r => go nx L (.inl (zbin y a b) :: r) σ
      | _ => none
    | 8 => match st with
      | .inl a :: r => go nx L (.inl (zun y a) :: r) σ
      | _ => none
    | 9 => match y, st with
      | 0, .inl b :: .inr (.inl a) :: r => go nx L (.inr (.inl (a >>> (b.toInt64 &&& 63))) :: r) σ
      | 1, .inl b :: .inr (.inl a) :: r => go nx L (.inr (.inl ((a.toUInt64 >>> (b.toInt64.toUInt64 &&& Int64.toUInt64 63)).toInt64)) :: r) σ
      | 2, .inr (.inl b) :: .inr (.inl a) :: r => go nx L (.inr (.inl (a &&& b)) :: r) σ
      | 3, .inr (.inl a) :: r => go nx L (.inl a.toInt32 :: r) σ
      | _, _ => none
    | 12 => go x L st σ
    | 13 => match st with
      | .inl v :: r => zsw v (fun t => go t L r σ) x sw
      | _ => none
    | 14 => match st with
      | .inr (.inr c) :: r => match zfld σ c x y with
        | some v => go nx L (v :: r) σ
        | none => none
      | _ => none
    | 15 => match st with
      | .inl v :: .inr (.inr c) :: r => if zwr c x y then go nx L r (zset σ c (upd (σ c) y v)) else none
      | _ => none
    | 16 => match st with
      | .inl i :: .inr (.inr c) :: r => match zarr c y with
        | some n => if i < 0 ∨ n ≤ i.toNatClampNeg then none else go nx L (.inl (σ c i.toNatClampNeg) :: r) σ
        | none => none
      | _ => none
    | 17 => match st with
      | .inl v :: .inl i :: .inr (.inr c) :: r => match zarr c y with
        | some n => if i < 0 ∨ n ≤ i.toNatClampNeg then none else go nx L r (zset σ c (upd (σ c) i.toNatClampNeg (if y = 1 then vp_nar .char v else v)))
        | none => none
      | _ => none
    | 18 => zinv call go nx x y sw L st σ
    | 19 => match st with
      | [.inl v] => if y = 1 then (if v = 0 ∨ v = 1 then some (1, v, σ) else none) else some (1, v, σ)
      | _ => none
    | 20 => match st with
      | [] => some (0, 0, σ)
      | _ => none
    | 21 => match st with
      | v :: r => if zcat v = 1 then go nx L (v :: v :: r) σ else none
      | _ => none
    | 22 => match st with
      | v :: r => if zcat v = 1 then go nx L r σ else none
      | _ => none
    | 23 => match st with
      | v :: w :: r => if zcat v = 1 ∧ zcat w = 1 then go nx L (v :: w :: v :: w :: r) σ else none
      | _ => none
    | 24 => match st with
      | .inr (.inr c) :: r => match zarr c 0 with
        | some n => go nx L (.inl (Int32.ofNat n) :: r) σ
        | none => none
      | _ => none
    | 25 => zcopy go nx L st σ
    | 26 => go nx L (.inr (.inl k.toInt64) :: st) σ
    | 27 => if y < 10 then go nx L (.inr (.inr (1000 + y)) :: st) σ else none
    | 28 => zscall go nx x L st σ
    | 30 => zinvV call go nx x y sw L st σ
    | 31 => match st with
      | .inl v :: .inr (.inr c) :: r => if zwr c x y then (if v = 0 ∨ v = 1 then go nx L r (zset σ c (upd (σ c) y v)) else none) else none
      | _ => none
    | 32 => match st with
      | .inl a :: r => if a = 0 then go x L r σ else go nx L r σ
      | _ => none
    | 33 => match st with
      | .inl a :: r => if a < 0 then go x L r σ else go nx L r σ
      | _ => none
    | 34 => match st with
      | .inl a :: r => if 0 < a then go x L r σ else go nx L r σ
      | _ => none
    | 35 => match st with
      | .inl b :: .inl a :: r => if a = b then go x L r σ else go nx L r σ
      | _ => none
    | 36 => match st with
      | .inl b :: .inl a :: r => if a < b then go x L r σ else go nx L r σ
      | _ => none
    | 37 => match st with
      | .inl b :: .inl a :: r => if b < a then go x L r σ else go nx L r σ
      | _ => none
    | 29 => match st with
      | [] => some (2, 0, σ)
      | _ => none
    | _ => none
def zseg (tab : List (Nat × zO)) (cut : List (Nat × List Nat)) (call : zCall) (kont : Nat → List zV → zS → Option zR) : Nat → zGo
  | 0, _, _, _, _ => none
  | f + 1, pc, L, st, σ => if 10000 ≤ pc then (match st, zlook cut (pc - 10000) with
      | [], some ix => (match zpick L ix with
        | some vs => kont (pc - 10000) vs σ
        | none => none)
      | _, _ => none)
    else match zlook tab pc with
      | none => none
      | some op => zstep call (zseg tab cut call kont f) op L st σ
def zexec (tab : List (Nat × zO)) (cut : List (Nat × List Nat)) (call : zCall) : Nat → Nat → List zV → zS → Option zR
  | 0, _, _, _ => none
  | n + 1, pc, vs, σ => match zlook cut pc with
    | none => none
    | some ix => if ix.length = vs.length then zseg tab cut call (zexec tab cut call n) 400 pc (ix.zip vs) [] σ else none
def zFUEL : Nat := 1000000
/-- the locals' places of the arguments, and how many words they are -/
def zplaces : Nat → List zV → List Nat
  | _, [] => []
  | k, v :: r => k :: zplaces (if zcat v = 2 then k + 2 else k + 1) r
def zwords : List zV → Nat
  | [] => 0
  | v :: r => zcat v + zwords r
def zM : Nat → zCall
  | 0, _, _, _ => none
  | d + 1, mi, as, σ => match zMT[mi]? with
    | none => none
    | some ((_, _, n, _, tab, cut), _) => if zlook cut 0 = some (zplaces 0 as) ∧ zwords as ≤ n then zexec tab cut (zM d) zFUEL 0 as σ else none
