/-! rows that came later -/
section VMORE
variable {x : Cx} {l : Launch} {R : Room} {y : Ly} {n : Nat} {cc : ByteArray} {own : String} {Ts : List Cond} {M : QM} {pc : Nat} {lv lv' : List (Nat × Value)} {st : List Value}
theorem v_tabE (K : VK x l R y n cc own Ts) {dflt lo hi : Int} {offs : Array Int} {len : Nat} {v k : Int32} {off : Int} (tgt : Nat) (hv : v = k) (hd : decode cc pc = .ok (.tableswitch dflt lo hi offs, len)) (h1 : ¬ k.toInt < lo) (h2 : ¬ hi < k.toInt) (ho : offs[(k.toInt - lo).toNat]? = some off) (ht : (pc : Int) + off = (tgt : Int)) (kk : V x y n M tgt lv st) : V x y n M pc lv (.int v :: st) :=
  v_tab (tgt := tgt) K hd (by rw [hv]; exact h1) (by rw [hv]; exact h2) (by rw [hv]; exact ho) ht kk
theorem v_lookE (K : VK x l R y n cc own Ts) {dflt : Int} {ps : Array (Int × Int)} {len : Nat} {v k : Int32} {off : Int} (tgt : Nat) (hv : v = k) (hd : decode cc pc = .ok (.lookupswitch dflt ps, len)) (hp : (ps.toList.zip (ps.toList.drop 1)).all (fun (a, next) => a.1 < next.1) = true) (ho : Op.lookupswitch.offset ps.toList dflt k.toInt = off) (ht : (pc : Int) + off = (tgt : Int)) (kk : V x y n M tgt lv st) : V x y n M pc lv (.int v :: st) :=
  v_look (tgt := tgt) K hd hp (by rw [hv]; exact ho) ht kk
end VMORE
