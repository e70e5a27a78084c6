-- the loop of indexOf
theorem zix_eq : ∀ n, n < 256 → ∀ i, i < 10 → ∀ k, k < zlens.getD i 0 → ((zbyts.getD i []).getD k 0 = (nI n).toInt8.toInt32 ↔ (zstr i).getD k 0 = nI n) := by decide +kernel
theorem zix_drop {i k : Nat} (h : k < (zstr i).length) (c x : Int32) : zixF c ((zstr i).drop k) x = if (zstr i).getD k 0 = c then x else zixF c ((zstr i).drop (k + 1)) (x + 1) := by
  rw [List.drop_eq_getElem_cons h]
  simp only [zixF]
  rw [List.getD_eq_getElem?_getD, List.getElem?_eq_getElem h]
  rfl
theorem zix_end {i k : Nat} (h : (zstr i).length ≤ k) (c x : Int32) : zixF c ((zstr i).drop k) x = -1 := by
  rw [List.drop_eq_nil_of_le h]; rfl
theorem cJ_ixc (l : Launch) (a adV : Nat → Nat) {i n : Nat} (hi : i < 10) (hn : n < 256) : Met l yJ1_indexOfChar_4cfef (zws yJ1_indexOfChar_4cfef cJ1_indexOfChar_4cfef 6 (some .int)) { frames := 1, cells := 0, slots := 0, locals := 20 } (va_Pc [.ref (adV i), .int (nI n), .int 0, .int (Int32.ofNat (zlens.getD i 0))] (zJ a adV)) (QcRead (zixF (nI n) (zstr i) 0)) 0 0 (fun _ => False) := by
  refine Met.ofW (cc := cJ1_indexOfChar_4cfef) (maxL := 6) (ret := some .int) (by decide) rfl ?_
  intro p e s m args below meth c s₁ B hml hv
  obtain ⟨rfl, hJ⟩ := hv
  obtain ⟨hE, hZ, hQ⟩ := id hJ
  have hx := B.exec
  have hb := B.bytes
  have hr := B.returns
  have hlocks := B.notSynchronized
  have hS : va_S (fun _ => False) s.heap s.heap [] := va_S.rf
  have hl := lv_entry ([.ref (adV i), .int (nI n), .int 0, .int (Int32.ofNat (zlens.getD i 0))]) (n := 6) (Nat.le_of_ble_eq_true rfl)
  rw [lg_entry_eq]
  generalize (lg_sl ([.ref (adV i), .int (nI n), .int 0, .int (Int32.ofNat (zlens.getD i 0))]) ++ List.replicate (6 - (lg_sl ([.ref (adV i), .int (nI n), .int 0, .int (Int32.ofNat (zlens.getD i 0))])).length) Slot.unset).toArray = ls at hl ⊢
  have hl : lv_has ls 6 [(0, .ref (adV i)), (1, .int (nI n)), (2, .int 0), (3, .int (Int32.ofNat (zlens.getD i 0)))] := hl
  obtain ⟨hlen, -⟩ := zch i hi
  have hL : (zstr i).length = zlens.getD i 0 := by
    have : ∀ i, i < 10 → (zstr i).length = zlens.getD i 0 := by decide +kernel
    exact this i hi
  have loop : ∀ (f k : Nat) (ls : Array Slot), zlens.getD i 0 ≤ k + f → k ≤ zlens.getD i 0 → lv_has ls 6 [(0, .ref (adV i)), (3, .int (Int32.ofNat (zlens.getD i 0))), (4, .int (nI n).toInt8.toInt32), (5, .int (nI k))] →
      W p l e (headSpec (zws yJ1_indexOfChar_4cfef cJ1_indexOfChar_4cfef 6 (some .int)) { frames := 1, cells := 0, slots := 0, locals := 20 }).room s m ([.ref (adV i), .int (nI n), .int 0, .int (Int32.ofNat (zlens.getD i 0))] : List Value).toArray below meth c s.heap [] 0 0 (MQ below (QcRead (zixF (nI n) ((zstr i).drop k) (nI k))) ([.ref (adV i), .int (nI n), .int 0, .int (Int32.ofNat (zlens.getD i 0))] : List Value).toArray s 0 0 (fun _ => False)) (F0 m 7 ls []) := by
    intro f
    induction f with
    | zero =>
      intro k ls h1 h2 hl
      refine lv_iload hx hb dJ1_indexOfChar_4cfef_7 (lv_at hl 3 rfl) ?_
      refine lv_iload_n hx hb dJ1_indexOfChar_4cfef_9 rfl (lv_at hl 1 rfl) ?_
      refine lv_icmp_ge (tgt := 31) hx hb dJ1_indexOfChar_4cfef_10 (by decide) (fun _ => ?_) (fun h => absurd (nI_le (a := zlens.getD i 0) (b := k) (by omega) (by omega)) h)
      refine lv_iconst (v := -1) hx hb dJ1_indexOfChar_4cfef_31 (by decide) ?_
      rw [zix_end (by omega)]
      exact W.iret hx hb hr (fun t ht hW => ⟨rfl, ht⟩) hS.2.2 dJ1_indexOfChar_4cfef_32
    | succ f ih =>
      intro k ls h1 h2 hl
      refine lv_iload hx hb dJ1_indexOfChar_4cfef_7 (lv_at hl 3 rfl) ?_
      refine lv_iload_n hx hb dJ1_indexOfChar_4cfef_9 rfl (lv_at hl 1 rfl) ?_
      by_cases hk : k < zlens.getD i 0
      · refine lv_icmp_ge (tgt := 31) hx hb dJ1_indexOfChar_4cfef_10 (by decide) (fun h => absurd h (nI_ge hk hlen)) (fun _ => ?_)
        refine lv_aload_n hx hb dJ1_indexOfChar_4cfef_13 rfl (lv_at hl 0 rfl) ?_
        refine lv_iload hx hb dJ1_indexOfChar_4cfef_14 (lv_at hl 3 rfl) ?_
        refine va_tb hx hb (hE.1 i hi).2.2.2 hS (vp_in_nI hk hlen) (v := .int ((zbyts.getD i []).getD k 0)) (by rw [nI_clamp (by omega)]) dJ1_indexOfChar_4cfef_16 ?_
        refine lv_iload hx hb dJ1_indexOfChar_4cfef_17 (lv_at hl 2 rfl) ?_
        rw [zix_drop (by omega)]
        refine lv_icmp_ne (tgt := 25) hx hb dJ1_indexOfChar_4cfef_19 (by decide) (fun h => ?_) (fun h => ?_)
        · rw [if_neg (fun h9 => h ((zix_eq n hn i hi k hk).mpr h9)), nI_1]
          refine lv_iinc (v := nI (k + 1)) (lv' := [(5, .int (nI (k + 1))), (0, .ref (adV i)), (3, .int (Int32.ofNat (zlens.getD i 0))), (4, .int (nI n).toInt8.toInt32)]) hx hb dJ1_indexOfChar_4cfef_25 hl (k := 3) rfl (nI_1 k) (by decide) rfl (fun ls hl => ?_)
          refine lv_goto (tgt := 7) hx hb dJ1_indexOfChar_4cfef_28 (by decide) ?_
          exact ih (k + 1) ls (by omega) (by omega) (lv_sub hl [1, 2, 3, 0] rfl)
        · rw [if_pos ((zix_eq n hn i hi k hk).mp h)]
          refine lv_iload hx hb dJ1_indexOfChar_4cfef_22 (lv_at hl 3 rfl) ?_
          exact W.iret hx hb hr (fun t ht hW => ⟨rfl, ht⟩) hS.2.2 dJ1_indexOfChar_4cfef_24
      · refine lv_icmp_ge (tgt := 31) hx hb dJ1_indexOfChar_4cfef_10 (by decide) (fun _ => ?_) (fun h => absurd (nI_le (a := zlens.getD i 0) (b := k) (by omega) (by omega)) h)
        refine lv_iconst (v := -1) hx hb dJ1_indexOfChar_4cfef_31 (by decide) ?_
        rw [zix_end (by omega)]
        exact W.iret hx hb hr (fun t ht hW => ⟨rfl, ht⟩) hS.2.2 dJ1_indexOfChar_4cfef_32
  refine lv_iload_n hx hb dJ1_indexOfChar_4cfef_0 rfl (lv_at hl 1 rfl) ?_
  refine lv_i2b hx hb dJ1_indexOfChar_4cfef_1 rfl ?_
  refine lv_istore (lv' := [(4, .int (nI n).toInt8.toInt32), (0, .ref (adV i)), (1, .int (nI n)), (2, .int 0), (3, .int (Int32.ofNat (zlens.getD i 0)))]) hx hb dJ1_indexOfChar_4cfef_2 hl (by decide) rfl (fun ls hl => ?_)
  refine lv_iload_n hx hb dJ1_indexOfChar_4cfef_4 rfl (lv_at hl 3 rfl) ?_
  refine lv_istore (lv' := [(5, .int 0), (4, .int (nI n).toInt8.toInt32), (0, .ref (adV i)), (1, .int (nI n)), (2, .int 0), (3, .int (Int32.ofNat (zlens.getD i 0)))]) hx hb dJ1_indexOfChar_4cfef_5 hl (by decide) rfl (fun ls hl => ?_)
  exact loop (zlens.getD i 0) 0 ls (by omega) (Nat.zero_le _) (lv_sub hl [2, 5, 1, 0] rfl)
