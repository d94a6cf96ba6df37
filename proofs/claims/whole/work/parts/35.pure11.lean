def hx (h v : Int64) : Int64 := 31 * h + v
def hxO (g : Nat → Int64 → Int64) (h : Int64) : Nat → Int64
  | 0 => h
  | k + 1 => g k (hxO g h k)
def hxK (f : Nat → Int32) (h : Int64) (n : Nat) : Int64 := hxO (fun k h => hx h (f k).toInt64) h n
def hUse (U : Nat → Nat → Int32) (W4 : Nat → Int32) (u : Nat) (h : Int64) : Int64 := hx (hxK (U u) h 5) (W4 u).toInt64
def hPh (P : Nat → Int32) (U : Nat → Nat → Int32) (W4 : Nat → Int32) (I : Nat → Nat → Int32) (W B : Nat → Int32) (br due : Int32) (h : Int64) : Int64 :=
  hx (hx (hxK B (hxK W (hxO (fun m h => hxK (I m) h 3) (hxO (hUse U W4) (hxK P h 14) 4) 4) 4) 3) br.toInt64) due.toInt64
def hDig (C S : Nat → Int32) (n : Nat) (Ph : Nat → Int64 → Int64) (sur urg : Int32) (bits : Int64) (L : Nat) (T : Nat → Int32) : Int64 :=
  hxK T (hx (hx (hx (hx (hxO Ph (hxK S (hxK C 2591 16) 4) n) sur.toInt64) urg.toInt64) bits) (nI L).toInt64) L
theorem hxO_congr {f g : Nat → Int64 → Int64} {h : Int64} : ∀ n, (∀ k, k < n → f k = g k) → hxO f h n = hxO g h n
  | 0, _ => rfl
  | k + 1, e => by
    show f k (hxO f h k) = g k (hxO g h k)
    rw [hxO_congr k fun j hj => e j (by omega), e k (by omega)]
theorem hxK_congr {f g : Nat → Int32} {h : Int64} {n : Nat} (e : ∀ k, k < n → f k = g k) : hxK f h n = hxK g h n := hxO_congr n fun k hk => by funext h; rw [e k hk]
theorem hx_34 {I : Nat → Nat → Int32} {h : Int64} : hxK (fun k => I (k / 3) (k % 3)) h 12 = hxO (fun m h => hxK (I m) h 3) h 4 := rfl
theorem mlset_mlset {μ : Mem} {k : Nat} {v w : Int64} : mlset (mlset μ k v) k w = mlset μ k w := by
  refine Prod.ext rfl ?_
  funext j
  show (if j = k then w else (if j = k then v else μ.2 j)) = if j = k then w else μ.2 j
  by_cases e : j = k
  · rw [if_pos e, if_pos e]
  · rw [if_neg e, if_neg e, if_neg e]
theorem mlself {μ : Mem} {k : Nat} {v : Int64} (h : μ.2 k = v) : mlset μ k v = μ := by
  refine Prod.ext rfl ?_
  funext j
  show (if j = k then v else μ.2 j) = μ.2 j
  by_cases e : j = k
  · rw [if_pos e, e, h]
  · rw [if_neg e]
theorem kpK_ml {μ : Mem} {k : Nat} {v : Int64} : ∀ n, kpK (mlset μ k v) n = mlset (kpK μ n) k v
  | 0 => rfl
  | n + 1 => by
    show mset (kpK (mlset μ k v) n) 20 0 0 n ((kpK (mlset μ k v) n).1 16 0 0 n) = _
    rw [kpK_ml n]
    rfl
set_option maxRecDepth 100000 in
theorem C_X4_phaseNow {l : Launch} {G : WG} {μ : Mem} {z : Zr} (hz : μ.1 16 0 0 = z) {p : Nat} (hp : p < 6) {n : Nat} (hZ : ZI z n) {w : Nat} (hw : w < 14) : Ct l G 6 yX4_phaseNow cX4_phaseNow 3 (some .int) [.ref (adr G 15 0 0), .int (nI p), .int (nI w)] μ (some (.int (mPhase z p w))) μ := by
  rcases (show w = 0 ∨ w = 1 ∨ w = 2 ∨ w = 3 ∨ w = 4 ∨ w = 5 ∨ w = 6 ∨ w = 7 ∨ w = 8 ∨ w = 9 ∨ w = 10 ∨ w = 11 ∨ w = 12 ∨ w = 13 by omega) with rfl | rfl | rfl | rfl | rfl | rfl | rfl | rfl | rfl | rfl | rfl | rfl | rfl | rfl
  · exact Ct_mono (by decide) (C_X4_phaseNow0 hz hp hZ)
  · exact Ct_mono (by decide) (C_X4_phaseNow1 hz hp hZ)
  · exact Ct_mono (by decide) (C_X4_phaseNow2 hz hp hZ)
  · exact Ct_mono (by decide) (C_X4_phaseNow3 hz hp hZ)
  · exact Ct_mono (by decide) (C_X4_phaseNow4 hz hp hZ)
  · exact Ct_mono (by decide) (C_X4_phaseNow5 hz hp hZ)
  · exact Ct_mono (by decide) (C_X4_phaseNow6 hz hp hZ)
  · exact Ct_mono (by decide) (C_X4_phaseNow7 hz hp hZ)
  · exact Ct_mono (by decide) (C_X4_phaseNow8 hz hp hZ)
  · exact Ct_mono (by decide) (C_X4_phaseNow9 hz hp hZ)
  · exact Ct_mono (by decide) (C_X4_phaseNow10 hz hp hZ)
  · exact Ct_mono (by decide) (C_X4_phaseNow11 hz hp hZ)
  · exact Ct_mono (by decide) (C_X4_phaseNow12 hz hp hZ)
  · exact Ct_mono (by decide) (C_X4_phaseNow13 hz hp hZ)
set_option maxRecDepth 100000 in
theorem C_X4_useNow {l : Launch} {G : WG} {μ : Mem} {z : Zr} (hz : μ.1 16 0 0 = z) {p : Nat} (hp : p < 6) {u : Nat} (hu : u < 4) {w : Nat} (hw : w < 5) : Ct l G 4 yX4_useNow cX4_useNow 4 (some .int) [.ref (adr G 15 0 0), .int (nI p), .int (nI u), .int (nI w)] μ (some (.int (mUse z p u w))) μ := by
  rcases (show w = 0 ∨ w = 1 ∨ w = 2 ∨ w = 3 ∨ w = 4 by omega) with rfl | rfl | rfl | rfl | rfl
  · exact Ct_mono (by decide) (C_X4_useNow0 hz hp hu)
  · exact Ct_mono (by decide) (C_X4_useNow1 hz hp hu)
  · exact Ct_mono (by decide) (C_X4_useNow2 hz hp hu)
  · exact Ct_mono (by decide) (C_X4_useNow3 hz hp hu)
  · exact Ct_mono (by decide) (C_X4_useNow4 hz hp hu)
set_option maxRecDepth 100000 in
theorem C_X4_instalmentNow {l : Launch} {G : WG} {μ : Mem} {z : Zr} (hz : μ.1 16 0 0 = z) {p : Nat} (hp : p < 6) {k : Nat} (hk : k < 4) {n : Nat} (hZ : ZI z n) {w : Nat} (hw : w < 3) : Ct l G 1 yX4_instalmentNow cX4_instalmentNow 4 (some .int) [.ref (adr G 15 0 0), .int (nI p), .int (nI k), .int (nI w)] μ (some (.int (mInst z p k w))) μ := by
  rcases (show w = 0 ∨ w = 1 ∨ w = 2 by omega) with rfl | rfl | rfl
  · exact Ct_mono (by decide) (C_X4_instalmentNow0 hz hp hk hZ)
  · exact Ct_mono (by decide) (C_X4_instalmentNow1 hz hp hk hZ)
  · exact Ct_mono (by decide) (C_X4_instalmentNow2 hz hp hk hZ)
set_option maxRecDepth 100000 in
theorem C_X4_whyNotNow {l : Launch} {G : WG} {μ : Mem} {z : Zr} (hz : μ.1 16 0 0 = z) {p : Nat} (hp : p < 6) {u : Nat} (hu : u < 4) {n : Nat} (hZ : ZI z n) {w : Nat} (hw : w < 4) : Ct l G 7 yX4_whyNotNow cX4_whyNotNow 4 (some .int) [.ref (adr G 15 0 0), .int (nI w), .int (nI p), .int (nI u)] μ (some (.int (mWhy z p u w))) μ := by
  rcases (show w = 0 ∨ w = 1 ∨ w = 2 ∨ w = 3 by omega) with rfl | rfl | rfl | rfl
  · exact Ct_mono (by decide) (C_X4_whyNotNow0 hz hp hu hZ)
  · exact Ct_mono (by decide) (C_X4_whyNotNow1 hz hp hu hZ)
  · exact Ct_mono (by decide) (C_X4_whyNotNow2 hz hp hu hZ)
  · exact Ct_mono (by decide) (C_X4_whyNotNow3 hz hp hu hZ)
set_option maxRecDepth 100000 in
theorem C_X4_begunThen {l : Launch} {G : WG} {μ : Mem} {z : Zr} (hz : μ.1 16 0 0 = z) {p : Nat} (hp : p < 6) {w : Nat} (hw : w < 3) : Ct l G 5 yX4_begunThen cX4_begunThen 4 (some .int) [.ref (adr G 15 0 0), .int (nI p), .int (nI w)] μ (some (.int (mThen z p w))) μ := by
  rcases (show w = 0 ∨ w = 1 ∨ w = 2 by omega) with rfl | rfl | rfl
  · exact Ct_mono (by decide) (C_X4_begunThen0 hz hp)
  · exact Ct_mono (by decide) (C_X4_begunThen1 hz hp)
  · exact Ct_mono (by decide) (C_X4_begunThen2 hz hp)
set_option maxRecDepth 100000 in
theorem C_X4_counted {l : Launch} {G : WG} {μ : Mem} {z : Zr} (hz : μ.1 16 0 0 = z) {n : Nat} (hZ : ZI z n) {sc : Nat} (hs : μ.1 15 0 0 1 = nI sc) {w : Nat} (hw : w < 16) : Ct l G 7 yX4_counted cX4_counted 2 (some .int) [.ref (adr G 15 0 0), .int (nI w)] μ (some (.int (mCount z sc n w))) μ := by
  rcases (show w = 0 ∨ w = 1 ∨ w = 2 ∨ w = 3 ∨ w = 4 ∨ w = 5 ∨ w = 6 ∨ w = 7 ∨ w = 8 ∨ w = 9 ∨ w = 10 ∨ w = 11 ∨ w = 12 ∨ w = 13 ∨ w = 14 ∨ w = 15 by omega) with rfl | rfl | rfl | rfl | rfl | rfl | rfl | rfl | rfl | rfl | rfl | rfl | rfl | rfl | rfl | rfl
  · exact Ct_mono (by decide) (C_X4_counted0 hz hZ hs)
  · exact Ct_mono (by decide) (C_X4_counted1 hz hZ hs)
  · exact Ct_mono (by decide) (C_X4_counted2 hz hZ hs)
  · exact Ct_mono (by decide) (C_X4_counted3 hz hZ hs)
  · exact Ct_mono (by decide) (C_X4_counted4 hz hZ hs)
  · exact Ct_mono (by decide) (C_X4_counted5 hz hZ hs)
  · exact Ct_mono (by decide) (C_X4_counted6 hz hZ hs)
  · exact Ct_mono (by decide) (C_X4_counted7 hz hZ hs)
  · exact Ct_mono (by decide) (C_X4_counted8 hz hZ hs)
  · exact Ct_mono (by decide) (C_X4_counted9 hz hZ hs)
  · exact Ct_mono (by decide) (C_X4_counted10 hz hZ hs)
  · exact Ct_mono (by decide) (C_X4_counted11 hz hZ hs)
  · exact Ct_mono (by decide) (C_X4_counted12 hz hZ hs)
  · exact Ct_mono (by decide) (C_X4_counted13 hz hZ hs)
  · exact Ct_mono (by decide) (C_X4_counted14 hz hZ hs)
  · exact Ct_mono (by decide) (C_X4_counted15 hz hZ hs)
