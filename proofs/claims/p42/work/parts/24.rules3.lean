/-! rules for arrays -/
theorem zarr_ok {a k len c : Nat} {j : Int} (h : zLY[a]? = some (k, c, len)) (h0 : 0 ≤ j) (h1 : j < len) (w : zW) (x y : Nat) : zarr (zLY, w, x, y) k (a : Int) j = some (a, j.toNat) := by
  unfold zarr
  rw [if_pos ⟨by omega, h0⟩, show (zLY, w, x, y).1[((a : Int)).toNat]? = some (k, c, len) from h]
  simp [h1]
section
variable {ro : zRo} {d : Nat} {M : zM} {pc : Nat} {ls st : List zV} {w : zW} {Q : (Option zV ⊕ String) → zW → Nat → Prop}
theorem Z_iaload {a len c : Nat} {j : Int} (g : zget (zMt M) pc = some (.iaload, 1)) (hL : zLY[a]? = some (1, c, len)) (h0 : 0 ≤ j) (h1 : j < len) (K : Z ro d M (pc + 1) ls ((0, w a j.toNat) :: st) w Q) : Z ro d M pc ls ((0, j) :: (1, (a : Int)) :: st) w Q := by
  refine Z_heap g rfl rfl rfl rfl ?_ rfl (st' := (0, w a j.toNat) :: st) (fun x y => ?_) id K
  · unfold zend; split <;> simp_all
  · simp only [zheap, zarr_ok hL h0 h1]
theorem Z_caload {a len c : Nat} {j : Int} (g : zget (zMt M) pc = some (.caload, 1)) (hL : zLY[a]? = some (2, c, len)) (h0 : 0 ≤ j) (h1 : j < len) (K : Z ro d M (pc + 1) ls ((0, w a j.toNat) :: st) w Q) : Z ro d M pc ls ((0, j) :: (1, (a : Int)) :: st) w Q := by
  refine Z_heap g rfl rfl rfl rfl ?_ rfl (st' := (0, w a j.toNat) :: st) (fun x y => ?_) id K
  · unfold zend; split <;> simp_all
  · simp only [zheap, zarr_ok hL h0 h1]
theorem Z_baload {a len c : Nat} {j : Int} (g : zget (zMt M) pc = some (.baload, 1)) (hL : zLY[a]? = some (3, c, len)) (h0 : 0 ≤ j) (h1 : j < len) (K : Z ro d M (pc + 1) ls ((0, w a j.toNat) :: st) w Q) : Z ro d M pc ls ((0, j) :: (1, (a : Int)) :: st) w Q := by
  refine Z_heap g rfl rfl rfl rfl ?_ rfl (st' := (0, w a j.toNat) :: st) (fun x y => ?_) id K
  · unfold zend; split <;> simp_all
  · simp only [zheap, zarr_ok hL h0 h1]
theorem Z_aaload {a len c : Nat} {j : Int} (g : zget (zMt M) pc = some (.aaload, 1)) (hL : zLY[a]? = some (6, c, len)) (h0 : 0 ≤ j) (h1 : j < len) (K : Z ro d M (pc + 1) ls ((1, w a j.toNat) :: st) w Q) : Z ro d M pc ls ((0, j) :: (1, (a : Int)) :: st) w Q := by
  refine Z_heap g rfl rfl rfl rfl ?_ rfl (st' := (1, w a j.toNat) :: st) (fun x y => ?_) id K
  · unfold zend; split <;> simp_all
  · simp only [zheap, zarr_ok hL h0 h1]
theorem Z_aaloadR {a len c b : Nat} {j : Int} (g : zget (zMt M) pc = some (.aaload, 1)) (hL : zLY[a]? = some (6, c, len)) (h0 : 0 ≤ j) (h1 : j < len) (hp : zptr a j.toNat = b) (hb : b ≠ 0) (K : Z ro d M (pc + 1) ls ((1, (b : Int)) :: st) w Q) : Z ro d M pc ls ((0, j) :: (1, (a : Int)) :: st) w Q :=
  Z_pt (fun hw => Z_aaload g hL h0 h1 (by rw [hw.at hp hb]; exact K))
theorem Z_iastore {a len c : Nat} {j v : Int} (g : zget (zMt M) pc = some (.iastore, 1)) (hL : zLY[a]? = some (1, c, len)) (h0 : 0 ≤ j) (h1 : j < len) (K : Z ro d M (pc + 1) ls st (zup w a j.toNat v) Q) : Z ro d M pc ls ((0, v) :: (0, j) :: (1, (a : Int)) :: st) w Q := by
  refine Z_heap g rfl rfl rfl rfl ?_ rfl (st' := st) (fun x y => ?_) (fun h => h.up (zLY_data hL (fun h => by cases h) (fun h => by cases h) _)) K
  · unfold zend; split <;> simp_all
  · simp only [zheap]
    rw [zarr_ok hL h0 h1]
    rfl
theorem Z_castore {a len c : Nat} {j v : Int} (g : zget (zMt M) pc = some (.castore, 1)) (hL : zLY[a]? = some (2, c, len)) (h0 : 0 ≤ j) (h1 : j < len) (hv : 0 ≤ v ∧ v < 65536) (K : Z ro d M (pc + 1) ls st (zup w a j.toNat v) Q) : Z ro d M pc ls ((0, v) :: (0, j) :: (1, (a : Int)) :: st) w Q := by
  refine Z_heap g rfl rfl rfl rfl ?_ rfl (st' := st) (fun x y => ?_) (fun h => h.up (zLY_data hL (fun h => by cases h) (fun h => by cases h) _)) K
  · unfold zend; split <;> simp_all
  · simp only [zheap]
    rw [if_pos hv]
    rw [zarr_ok hL h0 h1]
    rfl
theorem Z_bastore {a len c : Nat} {j v : Int} (g : zget (zMt M) pc = some (.bastore, 1)) (hL : zLY[a]? = some (3, c, len)) (h0 : 0 ≤ j) (h1 : j < len) (hv : v = 0 ∨ v = 1) (K : Z ro d M (pc + 1) ls st (zup w a j.toNat v) Q) : Z ro d M pc ls ((0, v) :: (0, j) :: (1, (a : Int)) :: st) w Q := by
  refine Z_heap g rfl rfl rfl rfl ?_ rfl (st' := st) (fun x y => ?_) (fun h => h.up (zLY_data hL (fun h => by cases h) (fun h => by cases h) _)) K
  · unfold zend; split <;> simp_all
  · simp only [zheap]
    rw [if_pos hv]
    rw [zarr_ok hL h0 h1]
    rfl
theorem Z_len {a k len c : Nat} (g : zget (zMt M) pc = some (.arraylength, 1)) (hL : zLY[a]? = some (k, c, len)) (hk : (1 ≤ k ∧ k ≤ 3) ∨ k = 6) (K : Z ro d M (pc + 1) ls ((0, (len : Int)) :: st) w Q) : Z ro d M pc ls ((1, (a : Int)) :: st) w Q := by
  refine Z_heap g rfl rfl rfl rfl ?_ rfl (st' := (0, (len : Int)) :: st) (fun x y => ?_) id K
  · unfold zend; split <;> simp_all
  · simp only [zheap]
    rw [if_pos (by omega), show (zLY, w, x, y).1[((a : Int)).toNat]? = some (k, c, len) from hL]
    simp only
    rw [if_pos hk]
theorem Z_lenS {L : Nat} {f : Nat → Int} (g : zget (zMt M) pc = some (.arraylength, 1)) (hr : ro (-3) = some (L, f)) (K : Z ro d M (pc + 1) ls ((0, (L : Int)) :: st) w Q) : Z ro d M pc ls ((1, -3) :: st) w Q := by
  refine Z_heap g rfl rfl rfl rfl ?_ rfl (st' := (0, (L : Int)) :: st) (fun x y => ?_) id K
  · unfold zend; split <;> simp_all
  · simp [zheap, hr]
theorem Z_ialoadS {L : Nat} {f : Nat → Int} {j : Int} (g : zget (zMt M) pc = some (.iaload, 1)) (hr : ro (-3) = some (L, f)) (h0 : 0 ≤ j) (h1 : j < L) (K : Z ro d M (pc + 1) ls ((0, f j.toNat) :: st) w Q) : Z ro d M pc ls ((0, j) :: (1, -3) :: st) w Q := by
  refine Z_heap g rfl rfl rfl rfl ?_ rfl (st' := (0, f j.toNat) :: st) (fun x y => ?_) id K
  · unfold zend; split <;> simp_all
  · have e : zarr (zLY, w, x, y) 1 (-3) j = none := by unfold zarr; rw [if_neg (by omega)]
    simp [zheap, e, hr, h0, h1]
end
