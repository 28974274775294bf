section XG
variable {σ : Hp} {x : Nat} {ci cz : Nat → Nat → Int32} {j : Nat}
theorem xc_o (h : kd j = 1) : isO (xh σ x ci cz) (x + j) 1 = some () := by
  simp [isO, xh_obj h (by omega) (by omega), xf]
theorem xc_0 (h : kd j = 1) : getR (xh σ x ci cz) (x + j) 1 0 = some (x + (j + 1)) := by
  simp [getR, getV, xh_obj h (by omega) (by omega), xf]
theorem xf_o (h : kd j = 2) : isO (xh σ x ci cz) (x + j) 2 = some () := by
  simp [isO, xh_obj h (by omega) (by omega), xf]
theorem xf_0 (h : kd j = 2) : getR (xh σ x ci cz) (x + j) 2 0 = some (x + (j + 1)) := by
  simp [getR, getV, xh_obj h (by omega) (by omega), xf]
theorem xf_1 (h : kd j = 2) : getR (xh σ x ci cz) (x + j) 2 1 = some (x + (j + 3)) := by
  simp [getR, getV, xh_obj h (by omega) (by omega), xf]
theorem xf_2 (h : kd j = 2) : getR (xh σ x ci cz) (x + j) 2 2 = some (x + (j + 5)) := by
  simp [getR, getV, xh_obj h (by omega) (by omega), xf]
theorem xf_3 (h : kd j = 2) : getR (xh σ x ci cz) (x + j) 2 3 = some (x + (j + 7)) := by
  simp [getR, getV, xh_obj h (by omega) (by omega), xf]
theorem xf_4 (h : kd j = 2) : getR (xh σ x ci cz) (x + j) 2 4 = some (x + (j + 9)) := by
  simp [getR, getV, xh_obj h (by omega) (by omega), xf]
theorem xf_5 (h : kd j = 2) : getR (xh σ x ci cz) (x + j) 2 5 = some (x + (j + 11)) := by
  simp [getR, getV, xh_obj h (by omega) (by omega), xf]
theorem xf_6 (h : kd j = 2) : getI (xh σ x ci cz) (x + j) 2 6 = some (cz j 6) := by
  simp [getI, getV, xh_obj h (by omega) (by omega), xf]
theorem xf_p6 (h : kd j = 2) (v : Int32) : putI (xh σ x ci cz) (x + j) 2 6 v = some (xh σ x ci (va_up cz j (upd (cz j) 6 v))) := by
  rw [putI]; simp only [putV, xh_obj h (by omega) (by omega)]; rw [if_pos (by simp [xf])]; exact congrArg some (xh_setO h (by omega) (by omega) (upd (cz j) 6 v))
theorem xf_7 (h : kd j = 2) : getI (xh σ x ci cz) (x + j) 2 7 = some (cz j 7) := by
  simp [getI, getV, xh_obj h (by omega) (by omega), xf]
theorem xf_p7 (h : kd j = 2) (v : Int32) : putI (xh σ x ci cz) (x + j) 2 7 v = some (xh σ x ci (va_up cz j (upd (cz j) 7 v))) := by
  rw [putI]; simp only [putV, xh_obj h (by omega) (by omega)]; rw [if_pos (by simp [xf])]; exact congrArg some (xh_setO h (by omega) (by omega) (upd (cz j) 7 v))
theorem xf_8 (h : kd j = 2) : getI (xh σ x ci cz) (x + j) 2 8 = some (cz j 8) := by
  simp [getI, getV, xh_obj h (by omega) (by omega), xf]
theorem xf_p8 (h : kd j = 2) (v : Int32) : putI (xh σ x ci cz) (x + j) 2 8 v = some (xh σ x ci (va_up cz j (upd (cz j) 8 v))) := by
  rw [putI]; simp only [putV, xh_obj h (by omega) (by omega)]; rw [if_pos (by simp [xf])]; exact congrArg some (xh_setO h (by omega) (by omega) (upd (cz j) 8 v))
theorem xf_9 (h : kd j = 2) : getI (xh σ x ci cz) (x + j) 2 9 = some (cz j 9) := by
  simp [getI, getV, xh_obj h (by omega) (by omega), xf]
theorem xf_p9 (h : kd j = 2) (v : Int32) : putI (xh σ x ci cz) (x + j) 2 9 v = some (xh σ x ci (va_up cz j (upd (cz j) 9 v))) := by
  rw [putI]; simp only [putV, xh_obj h (by omega) (by omega)]; rw [if_pos (by simp [xf])]; exact congrArg some (xh_setO h (by omega) (by omega) (upd (cz j) 9 v))
theorem xl_o (h : kd j = 4) : isO (xh σ x ci cz) (x + j) 4 = some () := by
  simp [isO, xh_obj h (by omega) (by omega), xf]
theorem xl_0 (h : kd (j + 13) = 4) : getR (xh σ x ci cz) (x + (j + 13)) 4 0 = some (x + j) := by
  simp [getR, getV, xh_obj h (by omega) (by omega), xf]
theorem xl_1 (h : kd j = 4) : getR (xh σ x ci cz) (x + j) 4 1 = some (x + (j + 1)) := by
  simp [getR, getV, xh_obj h (by omega) (by omega), xf]
theorem xl_2 (h : kd j = 4) : getR (xh σ x ci cz) (x + j) 4 2 = some (x + (j + 3)) := by
  simp [getR, getV, xh_obj h (by omega) (by omega), xf]
theorem xl_3 (h : kd j = 4) : getR (xh σ x ci cz) (x + j) 4 3 = some (x + (j + 5)) := by
  simp [getR, getV, xh_obj h (by omega) (by omega), xf]
theorem xl_4 (h : kd j = 4) : getR (xh σ x ci cz) (x + j) 4 4 = some (x + (j + 7)) := by
  simp [getR, getV, xh_obj h (by omega) (by omega), xf]
theorem xl_5 (h : kd j = 4) : getR (xh σ x ci cz) (x + j) 4 5 = some (x + (j + 9)) := by
  simp [getR, getV, xh_obj h (by omega) (by omega), xf]
theorem xl_6 (h : kd j = 4) : getI (xh σ x ci cz) (x + j) 4 6 = some (cz j 6) := by
  simp [getI, getV, xh_obj h (by omega) (by omega), xf]
theorem xl_p6 (h : kd j = 4) (v : Int32) : putI (xh σ x ci cz) (x + j) 4 6 v = some (xh σ x ci (va_up cz j (upd (cz j) 6 v))) := by
  rw [putI]; simp only [putV, xh_obj h (by omega) (by omega)]; rw [if_pos (by simp [xf])]; exact congrArg some (xh_setO h (by omega) (by omega) (upd (cz j) 6 v))
theorem xl_7 (h : kd j = 4) : getI (xh σ x ci cz) (x + j) 4 7 = some (cz j 7) := by
  simp [getI, getV, xh_obj h (by omega) (by omega), xf]
theorem xl_p7 (h : kd j = 4) (v : Int32) : putI (xh σ x ci cz) (x + j) 4 7 v = some (xh σ x ci (va_up cz j (upd (cz j) 7 v))) := by
  rw [putI]; simp only [putV, xh_obj h (by omega) (by omega)]; rw [if_pos (by simp [xf])]; exact congrArg some (xh_setO h (by omega) (by omega) (upd (cz j) 7 v))
theorem xa_o : isO (xh σ x ci cz) (x + 25) 0 = some () := by
  simp [isO, xh_obj (show kd 25 = 10 from rfl) (by omega) (by omega), xf]
theorem xa_0 : getR (xh σ x ci cz) (x + 25) 0 0 = some (x + 1) := by
  simp [getR, getV, xh_obj (show kd 25 = 10 from rfl) (by omega) (by omega), xf]
theorem xa_1 : getR (xh σ x ci cz) (x + 25) 0 1 = some (x + 26) := by
  simp [getR, getV, xh_obj (show kd 25 = 10 from rfl) (by omega) (by omega), xf]
theorem xa_2 : getR (xh σ x ci cz) (x + 25) 0 2 = some (x + 39) := by
  simp [getR, getV, xh_obj (show kd 25 = 10 from rfl) (by omega) (by omega), xf]
theorem xa_3 : getI (xh σ x ci cz) (x + 25) 0 3 = some (cz 25 3) := by
  simp [getI, getV, xh_obj (show kd 25 = 10 from rfl) (by omega) (by omega), xf]
theorem xa_p3 (v : Int32) : putI (xh σ x ci cz) (x + 25) 0 3 v = some (xh σ x ci (va_up cz 25 (upd (cz 25) 3 v))) := by
  rw [putI]; simp only [putV, xh_obj (show kd 25 = 10 from rfl) (by omega) (by omega)]; rw [if_pos (by simp [xf])]; exact congrArg some (xh_setO (show kd 25 = 10 from rfl) (by omega) (by omega) (upd (cz 25) 3 v))
theorem xa_4 : getI (xh σ x ci cz) (x + 25) 0 4 = some (cz 25 4) := by
  simp [getI, getV, xh_obj (show kd 25 = 10 from rfl) (by omega) (by omega), xf]
theorem xa_p4 (v : Int32) : putI (xh σ x ci cz) (x + 25) 0 4 v = some (xh σ x ci (va_up cz 25 (upd (cz 25) 4 v))) := by
  rw [putI]; simp only [putV, xh_obj (show kd 25 = 10 from rfl) (by omega) (by omega)]; rw [if_pos (by simp [xf])]; exact congrArg some (xh_setO (show kd 25 = 10 from rfl) (by omega) (by omega) (upd (cz 25) 4 v))
theorem xp_o : isO (xh σ x ci cz) (x + 50) 5 = some () := by
  simp [isO, xh_obj (show kd 50 = 15 from rfl) (by omega) (by omega), xf]
theorem xp_1 : getI (xh σ x ci cz) (x + 50) 5 1 = some (cz 50 1) := by
  simp [getI, getV, xh_obj (show kd 50 = 15 from rfl) (by omega) (by omega), xf]
theorem xy_o : isO (xh σ x ci cz) (x + 62) 3 = some () := by
  simp [isO, xh_obj (show kd 62 = 13 from rfl) (by omega) (by omega), xf]
theorem xy_0 : getR (xh σ x ci cz) (x + 62) 3 0 = some (x + 63) := by
  simp [getR, getV, xh_obj (show kd 62 = 13 from rfl) (by omega) (by omega), xf]
theorem xy_1 : getI (xh σ x ci cz) (x + 62) 3 1 = some (cz 62 1) := by
  simp [getI, getV, xh_obj (show kd 62 = 13 from rfl) (by omega) (by omega), xf]
theorem xy_p1 (v : Int32) : putI (xh σ x ci cz) (x + 62) 3 1 v = some (xh σ x ci (va_up cz 62 (upd (cz 62) 1 v))) := by
  rw [putI]; simp only [putV, xh_obj (show kd 62 = 13 from rfl) (by omega) (by omega)]; rw [if_pos (by simp [xf])]; exact congrArg some (xh_setO (show kd 62 = 13 from rfl) (by omega) (by omega) (upd (cz 62) 1 v))
theorem xy_2 : getI (xh σ x ci cz) (x + 62) 3 2 = some (cz 62 2) := by
  simp [getI, getV, xh_obj (show kd 62 = 13 from rfl) (by omega) (by omega), xf]
theorem xy_p2 (v : Int32) : putI (xh σ x ci cz) (x + 62) 3 2 v = some (xh σ x ci (va_up cz 62 (upd (cz 62) 2 v))) := by
  rw [putI]; simp only [putV, xh_obj (show kd 62 = 13 from rfl) (by omega) (by omega)]; rw [if_pos (by simp [xf])]; exact congrArg some (xh_setO (show kd 62 = 13 from rfl) (by omega) (by omega) (upd (cz 62) 2 v))
theorem xh_m : (xh σ x ci cz).2 x = some (.inr (.inr (xf x (cz 0) 0 18))) := xh_obj (j := 0) (show kd 0 = 18 from rfl) (by omega) (by omega)
theorem xm_o : isO (xh σ x ci cz) x 8 = some () := by
  simp [isO, xh_m, xf]
theorem xm_0 : getR (xh σ x ci cz) x 8 0 = some (x + 1) := by
  simp [getR, getV, xh_m, xf]
theorem xm_1 : getR (xh σ x ci cz) x 8 1 = some (x + 14) := by
  simp [getR, getV, xh_m, xf]
theorem xm_2 : getR (xh σ x ci cz) x 8 2 = some (x + 25) := by
  simp [getR, getV, xh_m, xf]
theorem xm_3 : getR (xh σ x ci cz) x 8 3 = some (x + 50) := by
  simp [getR, getV, xh_m, xf]
theorem xm_5 : getR (xh σ x ci cz) x 8 5 = some (x + 62) := by
  simp [getR, getV, xh_m, xf]
theorem xs_o1 : isO (xh σ x ci cz) (x + 63) 7 = some () := by
  simp [isO, xh_obj (show kd 63 = 17 from rfl) (by omega) (by omega), xf]
theorem xs_01 : getR (xh σ x ci cz) (x + 63) 7 0 = some (x + 64) := by
  simp [getR, getV, xh_obj (show kd 63 = 17 from rfl) (by omega) (by omega), xf]
end XG
