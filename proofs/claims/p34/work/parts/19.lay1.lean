def σ1 : Sg := (510, fun _ _ => true)
theorem s1p (k j : Nat) : σ1.2 k j = true := rfl
theorem x0 : shp σ1 0 = (6, 7) := by decide +kernel
theorem x1 : shp σ1 1 = (5, 12) := by decide +kernel
theorem x2 : shp σ1 2 = (4, 4) := by decide +kernel
theorem x3 : shp σ1 3 = (100, 24) := by decide +kernel
theorem x4 : shp σ1 4 = (100, 24) := by decide +kernel
theorem x5 : shp σ1 5 = (100, 24) := by decide +kernel
theorem x6 : shp σ1 6 = (100, 24) := by decide +kernel
theorem x7 : shp σ1 7 = (100, 96) := by decide +kernel
theorem x8 : shp σ1 8 = (100, 8) := by decide +kernel
theorem x9 : shp σ1 9 = (100, 8) := by decide +kernel
theorem x10 : shp σ1 10 = (100, 6) := by decide +kernel
theorem x11 : shp σ1 11 = (100, 6) := by decide +kernel
theorem x12 : shp σ1 12 = (102, 6) := by decide +kernel
theorem x13 : shp σ1 13 = (103, 6) := by decide +kernel
theorem x56 : shp σ1 56 = (2, 3) := by decide +kernel
theorem x57 : shp σ1 57 = (104, 6) := by decide +kernel
theorem x388 : shp σ1 388 = (105, 2) := by decide +kernel
theorem x389 : shp σ1 389 = (102, 2) := by decide +kernel
theorem x390 : shp σ1 390 = (3, 2) := by decide +kernel
theorem x391 : shp σ1 391 = (101, 60) := by decide +kernel
theorem x392 : shp σ1 392 = (0, 6) := by decide +kernel
theorem x393 : shp σ1 393 = (1, 3) := by decide +kernel
theorem x394 : shp σ1 394 = (4, 4) := by decide +kernel
theorem x395 : shp σ1 395 = (100, 24) := by decide +kernel
theorem x396 : shp σ1 396 = (100, 24) := by decide +kernel
theorem x397 : shp σ1 397 = (100, 24) := by decide +kernel
theorem x398 : shp σ1 398 = (100, 24) := by decide +kernel
theorem x399 : shp σ1 399 = (100, 24) := by decide +kernel
theorem x400 : shp σ1 400 = (5, 12) := by decide +kernel
theorem x455 : shp σ1 455 = (5, 12) := by decide +kernel
theorem st1_h : ∀ l, l < 6 → iHea σ1 (1 + 13 + 7 * l)
  | 0, _ => by unfold iHea iSen; decide +kernel
  | 1, _ => by unfold iHea iSen; decide +kernel
  | 2, _ => by unfold iHea iSen; decide +kernel
  | 3, _ => by unfold iHea iSen; decide +kernel
  | 4, _ => by unfold iHea iSen; decide +kernel
  | 5, _ => by unfold iHea iSen; decide +kernel
  | n + 6, h => absurd h (by omega)
theorem st1 : iSta σ1 1 := ⟨by decide +kernel, by unfold iSen; decide +kernel, by decide +kernel, st1_h, fun _ _ => rfl, fun _ _ => rfl⟩
theorem st58_h : ∀ l, l < 6 → iHea σ1 (58 + 13 + 7 * l)
  | 0, _ => by unfold iHea iSen; decide +kernel
  | 1, _ => by unfold iHea iSen; decide +kernel
  | 2, _ => by unfold iHea iSen; decide +kernel
  | 3, _ => by unfold iHea iSen; decide +kernel
  | 4, _ => by unfold iHea iSen; decide +kernel
  | 5, _ => by unfold iHea iSen; decide +kernel
  | n + 6, h => absurd h (by omega)
theorem st58 : iSta σ1 58 := ⟨by decide +kernel, by unfold iSen; decide +kernel, by decide +kernel, st58_h, fun _ _ => rfl, fun _ _ => rfl⟩
theorem st113_h : ∀ l, l < 6 → iHea σ1 (113 + 13 + 7 * l)
  | 0, _ => by unfold iHea iSen; decide +kernel
  | 1, _ => by unfold iHea iSen; decide +kernel
  | 2, _ => by unfold iHea iSen; decide +kernel
  | 3, _ => by unfold iHea iSen; decide +kernel
  | 4, _ => by unfold iHea iSen; decide +kernel
  | 5, _ => by unfold iHea iSen; decide +kernel
  | n + 6, h => absurd h (by omega)
theorem st113 : iSta σ1 113 := ⟨by decide +kernel, by unfold iSen; decide +kernel, by decide +kernel, st113_h, fun _ _ => rfl, fun _ _ => rfl⟩
theorem st168_h : ∀ l, l < 6 → iHea σ1 (168 + 13 + 7 * l)
  | 0, _ => by unfold iHea iSen; decide +kernel
  | 1, _ => by unfold iHea iSen; decide +kernel
  | 2, _ => by unfold iHea iSen; decide +kernel
  | 3, _ => by unfold iHea iSen; decide +kernel
  | 4, _ => by unfold iHea iSen; decide +kernel
  | 5, _ => by unfold iHea iSen; decide +kernel
  | n + 6, h => absurd h (by omega)
theorem st168 : iSta σ1 168 := ⟨by decide +kernel, by unfold iSen; decide +kernel, by decide +kernel, st168_h, fun _ _ => rfl, fun _ _ => rfl⟩
theorem st223_h : ∀ l, l < 6 → iHea σ1 (223 + 13 + 7 * l)
  | 0, _ => by unfold iHea iSen; decide +kernel
  | 1, _ => by unfold iHea iSen; decide +kernel
  | 2, _ => by unfold iHea iSen; decide +kernel
  | 3, _ => by unfold iHea iSen; decide +kernel
  | 4, _ => by unfold iHea iSen; decide +kernel
  | 5, _ => by unfold iHea iSen; decide +kernel
  | n + 6, h => absurd h (by omega)
theorem st223 : iSta σ1 223 := ⟨by decide +kernel, by unfold iSen; decide +kernel, by decide +kernel, st223_h, fun _ _ => rfl, fun _ _ => rfl⟩
theorem st278_h : ∀ l, l < 6 → iHea σ1 (278 + 13 + 7 * l)
  | 0, _ => by unfold iHea iSen; decide +kernel
  | 1, _ => by unfold iHea iSen; decide +kernel
  | 2, _ => by unfold iHea iSen; decide +kernel
  | 3, _ => by unfold iHea iSen; decide +kernel
  | 4, _ => by unfold iHea iSen; decide +kernel
  | 5, _ => by unfold iHea iSen; decide +kernel
  | n + 6, h => absurd h (by omega)
theorem st278 : iSta σ1 278 := ⟨by decide +kernel, by unfold iSen; decide +kernel, by decide +kernel, st278_h, fun _ _ => rfl, fun _ _ => rfl⟩
theorem st333_h : ∀ l, l < 6 → iHea σ1 (333 + 13 + 7 * l)
  | 0, _ => by unfold iHea iSen; decide +kernel
  | 1, _ => by unfold iHea iSen; decide +kernel
  | 2, _ => by unfold iHea iSen; decide +kernel
  | 3, _ => by unfold iHea iSen; decide +kernel
  | 4, _ => by unfold iHea iSen; decide +kernel
  | 5, _ => by unfold iHea iSen; decide +kernel
  | n + 6, h => absurd h (by omega)
theorem st333 : iSta σ1 333 := ⟨by decide +kernel, by unfold iSen; decide +kernel, by decide +kernel, st333_h, fun _ _ => rfl, fun _ _ => rfl⟩
theorem st400_h : ∀ l, l < 6 → iHea σ1 (400 + 13 + 7 * l)
  | 0, _ => by unfold iHea iSen; decide +kernel
  | 1, _ => by unfold iHea iSen; decide +kernel
  | 2, _ => by unfold iHea iSen; decide +kernel
  | 3, _ => by unfold iHea iSen; decide +kernel
  | 4, _ => by unfold iHea iSen; decide +kernel
  | 5, _ => by unfold iHea iSen; decide +kernel
  | n + 6, h => absurd h (by omega)
theorem st400 : iSta σ1 400 := ⟨by decide +kernel, by unfold iSen; decide +kernel, by decide +kernel, st400_h, fun _ _ => rfl, fun _ _ => rfl⟩
theorem st455_h : ∀ l, l < 6 → iHea σ1 (455 + 13 + 7 * l)
  | 0, _ => by unfold iHea iSen; decide +kernel
  | 1, _ => by unfold iHea iSen; decide +kernel
  | 2, _ => by unfold iHea iSen; decide +kernel
  | 3, _ => by unfold iHea iSen; decide +kernel
  | 4, _ => by unfold iHea iSen; decide +kernel
  | 5, _ => by unfold iHea iSen; decide +kernel
  | n + 6, h => absurd h (by omega)
theorem st455 : iSta σ1 455 := ⟨by decide +kernel, by unfold iSen; decide +kernel, by decide +kernel, st455_h, fun _ _ => rfl, fun _ _ => rfl⟩
theorem he393 : iHea σ1 393 := by unfold iHea iSen; decide +kernel
theorem ch392 : iCho σ1 392 := by unfold iCho; decide +kernel
theorem stH : ∀ l, l < 6 → iSta σ1 (58 + 55 * l)
  | 0, _ => st58
  | 1, _ => st113
  | 2, _ => st168
  | 3, _ => st223
  | 4, _ => st278
  | 5, _ => st333
  | n + 6, h => absurd h (by omega)
theorem heF (l : Nat) (h : l < 6) : iHea σ1 (14 + 7 * l) := st1.2.2.2.1 l h
