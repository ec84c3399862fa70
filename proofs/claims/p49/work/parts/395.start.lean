/-! the law's start -/
def hZ : AH := (fun _ => 0, fun _ _ => 0, fun _ _ => none, fun _ => 0, fun _ => 0)
theorem hZ_w {D : va_G} {cy : Nat → ClassId} {A : Nat → Prop} {H : Heap} : HW D cy A hZ H := ⟨[], fun k q h => by simp [va_pl] at h, ⟨fun i j p q h => by simp [va_pl] at h, fun k q h => by simp [va_pl] at h⟩, fun a ha => absurd rfl ha⟩
set_option maxHeartbeats 4000000 in
/-- from the entry, for every script, the law comes to its end with true -/
theorem whole_start {p : Program} {e : Env} {s : State} {m : MethodId} {below : List Frame} {meth : Method} {c : Code} (l : Launch) (hflags : l.flags = flags0) {b L : Nat} {xs : Nat → Int32} (hL : L ≤ 260) (C0 : lw_At p s m meth c b L xs) : W p l e room_1 s m #[Value.ref b] below meth c s.heap [] 0 0 (lw_Z below #[Value.ref b] s) (entryFrame m ([Value.ref b] : List Value).toArray 5) := by
  obtain ⟨hx, hb, hr, hml, hown, hts, hX, hbl, hlocks, hgv⟩ := id C0
  have hlt : l.stackTraces = false := by unfold Launch.stackTraces; rw [hflags]; decide
  have hta : ∀ w ∈ lw_all, w.before #[Value.ref b] s = true := fun w hw => hts w (List.mem_filter.mp hw).1
  obtain ⟨G, hK, hG, hG2⟩ := lw_world (A := fun q => s.heap.size ≤ q) hts hgv (fun a ha q => absurd ha (Nat.not_lt.mpr q))
  have hnc := lw_ncOf hgv
  have hown : s.vm.findClass "RoutepostLaw" = some m.cls := hown
  have C1 : CX p l s m #[Value.ref b] meth c code 5 "RoutepostLaw" G (fun q => s.heap.size ≤ q) := ⟨hx, hb, hml, hown, hta, hK, fun _ h => h, hG, hG2, hlocks⟩
  have hl := lv_entry ([.ref b]) (n := 5) (Nat.le_of_ble_eq_true rfl)
  rw [lg_entry_eq]
  generalize (lg_sl ([.ref b]) ++ List.replicate (5 - (lg_sl ([.ref b])).length) Slot.unset).toArray = ls at hl ⊢
  have hl : lv_has ls 5 [(0, .ref b)] := hl
  obtain ⟨scr, x1, x2, x3, x4, x5⟩ := hX
  have hT : va_T .int b L (fun j => .int (xs j)) (fun q => s.heap.size ≤ q) s s.heap := ⟨scr, x1, x2, x3, Nat.le_of_eq x4.symm, by rw [x4], x5, Nat.not_le.mpr hbl⟩
  have hN : LX (b, L, xs) (fun q => s.heap.size ≤ q) s := ⟨hnc, hT, hL⟩
  have hH : HS G.1 G.2.1 (fun q => s.heap.size ≤ q) s.heap hZ s.heap [] := ⟨hZ_w, va_S.rf⟩
  exact law_walk hlt (b, L, xs) G (fun q => s.heap.size ≤ q) C1 hN (fun q z => z) hr hH hl
