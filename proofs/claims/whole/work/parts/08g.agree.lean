/-! ===== equal sheets, equal answers ===== -/
section AGH
variable {ln so ln2 so2 : Int32} {L L1 L2 L3 : Nat}
theorem q_z {α : Type} {a b c d : α} (h : eqK ln so) (h1 : a = c) (h2 : ln ≠ (-1) → ln = so → b = d) : iF (ln = (-1)) a b = iF (so = (-9)) c d := by
  rcases h with ⟨p, q⟩ | ⟨p, q, r⟩
  · rw [iF_t p, iF_t q]; exact h1
  · rw [iF_f p, iF_f q]; exact h2 p r
theorem q_ft (h : eqK ln so) (hL : ln ≠ (-1) → L = L1) (as i n : Int32) : ft (-1) ln L as i n = ft (-9) so L1 as i n :=
  q_z h rfl (fun p r => by rw [hL p, r])
theorem q_lose (h : eqK ln so) (k : Int32) : s_lose (-1) ln k = s_lose (-9) so k := q_iF (fun _ => q_z h rfl (fun _ _ => rfl))
theorem q_put (h : eqK ln so) (hL : ln ≠ (-1) → L = L1) (k i : Int32) : s_put (-1) ln L k i = s_put (-9) so L1 k i := q_iF (fun _ => q_z h rfl (fun p _ => by rw [hL p]))
theorem q_fput (h : eqK ln so) (hL : ln ≠ (-1) → L = L1) (k i : Int32) : f_put (-1) ln L k i = f_put (-9) so L1 k i := q_iF (fun _ => q_z h rfl (fun p _ => by rw [hL p]))
theorem q_copy (h : eqK ln so) (h2 : eqK ln2 so2) (hL : ln ≠ (-1) → L = L1) (hL2 : ln2 ≠ (-1) → L2 = L3) (k o i j n : Int32) : s_copy (-1) ln ln2 L L2 k o i j n = s_copy (-9) so so2 L1 L3 k o i j n :=
  q_iF (fun _ => q_iF (fun _ => q_z h rfl (fun p r => q_z h2 rfl (fun p2 r2 => by rw [hL p, hL2 p2, r, r2]))))
theorem q_fcopy (h : eqK ln so) (h2 : eqK ln2 so2) (hL : ln ≠ (-1) → L = L1) (hL2 : ln2 ≠ (-1) → L2 = L3) (k o i j n : Int32) : f_copy (-1) ln ln2 L L2 k o i j n = f_copy (-9) so so2 L1 L3 k o i j n :=
  q_iF (fun _ => q_iF (fun _ => q_z h rfl (fun p r => q_z h2 rfl (fun p2 r2 => by rw [hL p, hL2 p2, r, r2]))))
end AGH
