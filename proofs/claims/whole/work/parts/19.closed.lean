/-! EVERY STEP OF THE MINI MACHINE IS THE MACHINE'S -/
def chkC (mi : Mi) (pc : Nat) (ins : Instr) (x z : Nat) : Prop := match ins with
  | .invokevirtual i => ∃ mi' n C T N, mm_pr x = some mi' ∧ mi'.na = n + 1 ∧ calleeP mi' n ∧ mlnkP mi.nm.cls i mi'.nm ∧ Jvm.Cond.instanceMethod mi'.nm ∈ mm_tw ∧ mm_cl[z]? = some (C, T, N) ∧ Jvm.Cond.selects C mi'.nm mi'.nm ∈ mm_tw
  | .invokestatic i => ∃ mi', mm_pr x = some mi' ∧ calleeP mi' mi'.na ∧ mlnkP mi.nm.cls i mi'.nm ∧ Jvm.Cond.static mi'.nm ∈ mm_tw
  | .invokespecial i => z = 0 ∨ z = 1 ∧ Jvm.Cond.methodLink mi.nm.cls i Lib.objectInit ∈ mm_tw ∧ Jvm.Cond.instanceMethod Lib.objectInit ∈ mm_tw ∧ Jvm.Cond.code Lib.objectInit ⟨#[0xb1]⟩ 1 none ∈ mm_tw
  | _ => True
def chkS (mi : Mi) (pc : Nat) (ins : Instr) (x z : Nat) : Prop := match ins with
  | .invokespecial i => z = 0 → ∃ mi' n, mm_pr x = some mi' ∧ mi'.na = n + 1 ∧ calleeP mi' n ∧ mlnkP mi.nm.cls i mi'.nm ∧ Jvm.Cond.instanceMethod mi'.nm ∈ mm_tw ∧ mi'.nm.name = "<init>" ∧ mi'.rt = none ∧ mi'.hs = []
  | .new i => ¬ z = 0 → chkT mi pc i x
  | .lreturn => mi.rt = some .long
  | .return_ => mi.rt = none
  | _ => True
theorem take_rev {st : List Value} {n : Nat} (h : n ≤ st.length) : ((st.take n).reverse).reverse ++ st.drop n = st ∧ ((st.take n).reverse).length = n := by simp; omega
theorem back_mono {X Y : Xt} (h : Xle X Y) {y pc : Nat} {ls : Lo} {rest : List Value} {fr lo : Nat} {Q : Po} {o : Ou} {M : Mm} {sz sl : Nat} (hb : backP X y pc ls rest fr lo Q o M sz sl) : backP Y y pc ls rest fr lo Q o M sz sl := by
  unfold backP at hb ⊢
  cases o with
  | inl v => exact h _ _ _ _ _ _ _ _ _ _ hb
  | inr k =>
    dsimp only at hb ⊢
    cases hm : mm_pr y with
    | none => rw [hm] at hb; exact hb
    | some me =>
      rw [hm] at hb
      dsimp only at hb ⊢
      cases hh : me.hn pc k with
      | none => rw [hh] at hb; exact hb
      | some z => rw [hh] at hb; exact fun a => h _ _ _ _ _ _ _ _ _ _ (hb a)
section CC
variable {l : Launch} {G : Gw} {D : va_G}
set_option maxHeartbeats 4000000 in
theorem Jd.closed (hfl : l.flags = flags0) (hcat : ∀ y mi pc k h, mm_pr y = some mi → mi.hn pc k = some h → hkP mi pc k h) (hchk : ∀ y mi pc q, mm_pr y = some mi → mi.co pc = some q → chkP mi pc q ∧ chkC mi pc q.1 q.2.2.1 q.2.2.2.1 ∧ chkS mi pc q.1 q.2.2.1 q.2.2.2.1) : Closed G (Jd l G D) := by
  intro y pc ls st M sz sl fr lo Q hh
  obtain ⟨Y, hY, hs⟩ := hh
  intro mi hmi p e s m args below meth c H locs arr sz0 sl0 cx hl hP hB
  unfold stp at hs
  rw [hmi, Option.bind_some] at hs
  cases hco : mi.co pc with
  | none => rw [hco] at hs; exact hs.elim
  | some q =>
    obtain ⟨ins, w, x, z, k⟩ := q
    rw [hco] at hs
    obtain ⟨⟨⟨n, hd, hn⟩, hI⟩, hC, hS⟩ := hchk y mi pc _ hmi hco
    dsimp only at hs hd hn hI hC hS
    have hc9 : ∀ k h, mi.hn pc k = some h → Takes1 l p e s m args below meth c pc h k := fun k h hh => takes_of cx (hcat y mi pc k h hmi hh)
    have hde : isSw ins = false → decode mi.by pc = .ok (ins, lenOf ins) := fun h => by rw [← hn h]; exact hd
    have hY' : ∀ y pc ls st M sz sl fr lo Q, Y y pc ls st M sz sl fr lo Q → Jd l G D y pc ls st M sz sl fr lo Q := hY
    cases hp : pure1 ins k pc ls st with
    | some r =>
      rw [hp] at hs
      obtain ⟨hx, hb, -, -, hown, -, -, -, hE⟩ := id cx
      refine pure1_ok hx hb hown hp (hde ?_) ?_ hl (fun arr' hl' => hY' _ _ _ _ _ _ _ _ _ _ hs mi hmi p e s m args below meth c H locs arr' sz0 sl0 cx hl' hP hB)
      · cases ins <;> first | rfl | (simp [pure1] at hp)
      · cases ins <;> first | trivial | exact hI | exact hE.w _ hI
    | none =>
      rw [hp] at hs
      dsimp only at hs
      cases ins with
      | ifCond cd o =>
        simp only [memS] at hs
        split at hs
        · exact j_if hmi cx hl hP hB (hde rfl) hs.1 (fun h => hY' _ _ _ _ _ _ _ _ _ _ (hs.2.1 h)) (fun h => hY' _ _ _ _ _ _ _ _ _ _ (hs.2.2 h))
        · exact hs.elim
      | if_icmp cd o =>
        simp only [memS] at hs
        split at hs
        · exact j_icmp hmi cx hl hP hB (hde rfl) hs.1 (fun h => hY' _ _ _ _ _ _ _ _ _ _ (hs.2.1 h)) (fun h => hY' _ _ _ _ _ _ _ _ _ _ (hs.2.2 h))
        · exact hs.elim
      | tableswitch d0 lo0 hi0 offs =>
        simp only [memS] at hs
        split at hs
        · rename_i v r
          obtain ⟨hx, hb, -⟩ := id cx
          by_cases h1 : v.toInt < lo0 ∨ hi0 < v.toInt
          · obtain ⟨g1, g2⟩ := hs.1 h1
            exact lv_tableOut hx hb hd h1 (tgt_ok g1) (hY' _ _ _ _ _ _ _ _ _ _ g2 mi hmi p e s m args below meth c H locs arr sz0 sl0 cx hl hP hB)
          · obtain ⟨o, g0, g1, g2⟩ := hs.2 (fun h => h1 (Or.inl h)) (fun h => h1 (Or.inr h))
            exact lv_tableIn hx hb hd (fun h => h1 (Or.inl h)) (fun h => h1 (Or.inr h)) g0 (tgt_ok g1) (hY' _ _ _ _ _ _ _ _ _ _ g2 mi hmi p e s m args below meth c H locs arr sz0 sl0 cx hl hP hB)
        · exact hs.elim
      | irem =>
        simp only [memS] at hs
        split at hs
        · obtain ⟨hx, hb, -⟩ := id cx
          exact lv_irem hx hb (hde rfl) hs.1 (hY' _ _ _ _ _ _ _ _ _ _ hs.2 mi hmi p e s m args below meth c H locs arr sz0 sl0 cx hl hP hB)
        · exact hs.elim
      | idiv =>
        simp only [memS] at hs
        split at hs
        · obtain ⟨hx, hb, -⟩ := id cx
          exact lv_idiv hx hb (hde rfl) hs.1 (hY' _ _ _ _ _ _ _ _ _ _ hs.2 mi hmi p e s m args below meth c H locs arr sz0 sl0 cx hl hP hB)
        · exact hs.elim
      | getfield i =>
        simp only [memS] at hs
        split at hs
        · obtain ⟨fs, v, h1, h2, h3⟩ := hs
          exact j_get hmi cx hl hP hB (hde rfl) hI h1 h2 (hY' _ _ _ _ _ _ _ _ _ _ h3)
        · exact hs.elim
      | putfield i =>
        simp only [memS] at hs
        split at hs
        · obtain ⟨fs, h1, h2, h3, h4, h5⟩ := hs
          exact j_put hmi cx hl hP hB (hde rfl) hI h1 h2 h3 h4 (hY' _ _ _ _ _ _ _ _ _ _ h5)
        · exact hs.elim
      | getstatic i =>
        simp only [memS] at hs
        obtain ⟨q, h1, h2⟩ := hI
        exact j_gets hmi cx hl hP hB (hde rfl) h1 h2 (hY' _ _ _ _ _ _ _ _ _ _ hs)
      | iaload =>
        simp only [memS] at hs
        split at hs
        · split at hs
          · rename_i hw
            obtain ⟨n, f, h1, h2, h3⟩ := hs
            exact j_iald hmi cx hl hP hB (hde rfl) (hI.1 hw) h1 h2 (hY' _ _ _ _ _ _ _ _ _ _ h3)
          · split at hs
            · rename_i hw
              obtain ⟨rfl, h2, h3⟩ := hs
              obtain ⟨q, hq⟩ := hI.2 hw
              exact j_iaS hmi cx hl hP hB (hde rfl) hq h2 (hY' _ _ _ _ _ _ _ _ _ _ h3)
            · obtain ⟨rfl, h2, h3⟩ := hs
              exact j_iaX hmi cx hl hP hB (hde rfl) h2 (hY' _ _ _ _ _ _ _ _ _ _ h3)
        · exact hs.elim
      | laload =>
        simp only [memS] at hs
        split at hs
        · obtain ⟨n, f, h1, h2, h3⟩ := hs
          exact j_lald hmi cx hl hP hB (hde rfl) hI h1 h2 (hY' _ _ _ _ _ _ _ _ _ _ h3)
        · exact hs.elim
      | baload =>
        simp only [memS] at hs
        split at hs
        · obtain ⟨n, f, h1, h2, h3⟩ := hs
          exact j_bald hmi cx hl hP hB (hde rfl) hI h1 h2 (hY' _ _ _ _ _ _ _ _ _ _ h3)
        · exact hs.elim
      | aaload =>
        simp only [memS] at hs
        split at hs
        · obtain ⟨n, f, h1, h2, h3⟩ := hs
          obtain ⟨C, hC2⟩ := hI
          exact j_aald hmi cx hl hP hB (hde rfl) hC2 h1 h2 (hY' _ _ _ _ _ _ _ _ _ _ h3)
        · exact hs.elim
      | iastore =>
        simp only [memS] at hs
        split at hs
        · obtain ⟨n, f, h1, h2, h3⟩ := hs
          exact j_iast hmi cx hl hP hB (hde rfl) hI h1 h2 (hY' _ _ _ _ _ _ _ _ _ _ h3)
        · exact hs.elim
      | lastore =>
        simp only [memS] at hs
        split at hs
        · obtain ⟨n, f, h1, h2, h3⟩ := hs
          exact j_last hmi cx hl hP hB (hde rfl) hI h1 h2 (hY' _ _ _ _ _ _ _ _ _ _ h3)
        · exact hs.elim
      | bastore =>
        simp only [memS] at hs
        split at hs
        · obtain ⟨n, f, h1, h2, h3, h4⟩ := hs
          exact j_bast hmi cx hl hP hB (hde rfl) hI h1 h2 h3 (hY' _ _ _ _ _ _ _ _ _ _ h4)
        · exact hs.elim
      | aastore =>
        simp only [memS] at hs
        split at hs
        · obtain ⟨n, f, fs, h1, h2, h3, h4⟩ := hs
          obtain ⟨C, T, N, hC1, hC2⟩ := hI
          exact j_aast hmi cx hl hP hB (hde rfl) hC1 hC2 h1 h2 h3 (hY' _ _ _ _ _ _ _ _ _ _ h4)
        · exact hs.elim
      | arraylength =>
        simp only [memS] at hs
        split at hs
        · split at hs
          · rename_i hw
            obtain ⟨v, h1, h2⟩ := hs
            obtain ⟨ty, hty⟩ := hI hw
            exact j_alen hmi cx hl hP hB (hde rfl) hty h1 (hY' _ _ _ _ _ _ _ _ _ _ h2)
          · obtain ⟨rfl, h2⟩ := hs
            exact j_alenX hmi cx hl hP hB (hde rfl) (hY' _ _ _ _ _ _ _ _ _ _ h2)
        · exact hs.elim
      | newarray t =>
        simp only [memS] at hs
        split at hs
        · obtain ⟨h1, h2, h3, h4, h5⟩ := hs
          exact j_newa hmi cx hl hP hB (hde rfl) hI.1 hI.2.1 hI.2.2 h1 h2 h3 h4 (hY' _ _ _ _ _ _ _ _ _ _ h5)
        · exact hs.elim
      | anewarray i =>
        simp only [memS] at hs
        split at hs
        · obtain ⟨h1, h2, h3, h4, h5⟩ := hs
          obtain ⟨C, g1, g2, g3⟩ := hI
          exact j_anew hmi cx hl hP hB (hde rfl) g1 g2 g3 h1 h2 h3 h4 (hY' _ _ _ _ _ _ _ _ _ _ h5)
        · exact hs.elim
      | new i =>
        simp only [memS] at hs
        split at hs
        · rename_i hz
          obtain ⟨h1, h2, h3⟩ := hs
          obtain ⟨C, T, N, g1, g2⟩ := hI hz
          exact j_new hmi cx hl hP hB (hde rfl) g1 g2 h1 h2 (hY' _ _ _ _ _ _ _ _ _ _ h3)
        · rename_i hz
          obtain ⟨rfl, h1, h2, h3, h4, h5⟩ := hs
          exact j_throw hfl cx hl hP hB (hde rfl) (hS hz) h1 h2 h3 h4 h5
      | invokevirtual i =>
        simp only [memS] at hs
        obtain ⟨mi', n, C, T, N, g1, g2, g3, g4, g5, g6, g7⟩ := hC
        simp only [callP, g1] at hs
        obtain ⟨q1, q2, q3, q4, q5, q6, Qc, q7, q8⟩ := hs
        obtain ⟨e1, e2⟩ := take_rev q1
        generalize (st.take mi'.na).reverse = A at e1 e2 q2 q3 q7
        rw [← e1]
        cases A with
        | nil => exact q2.elim
        | cons v As =>
          cases v with
          | ref b =>
            obtain ⟨fs, hM⟩ := q2
            have hn9 : As.length = n := by simp at e2; omega
            have e3 : (Value.ref b :: As).reverse ++ st.drop mi'.na = As.reverse ++ .ref b :: st.drop mi'.na := by simp
            rw [e3]
            exact j_callV hmi cx hl hP hB (hde rfl) g1 (by rw [hn9]; exact g3) g4 g5 g6 g7 hM q3 q4 q5 q6 (hY' _ _ _ _ _ _ _ _ _ _ q7) hc9 (fun o M' sz' sl' hq => back_mono hY' (q8 o M' sz' sl' hq))
          | _ => exact q2.elim
      | invokestatic i =>
        simp only [memS] at hs
        obtain ⟨mi', g1, g3, g4, g5⟩ := hC
        simp only [callP, g1] at hs
        obtain ⟨q1, q2, q3, q4, q5, q6, Qc, q7, q8⟩ := hs
        obtain ⟨e1, e2⟩ := take_rev q1
        generalize (st.take mi'.na).reverse = A at e1 e2 q2 q3 q7
        rw [← e1]
        exact j_callS hmi cx hl hP hB (hde rfl) g1 (by rw [e2]; exact g3) g4 g5 q3 q4 q5 q6 (hY' _ _ _ _ _ _ _ _ _ _ q7) hc9 (fun o M' sz' sl' hq => back_mono hY' (q8 o M' sz' sl' hq))
      | invokespecial i =>
        simp only [memS] at hs
        split at hs
        · rename_i hz
          split at hs
          · obtain ⟨hx, hb, hml, -, hown, -, -, -, hE⟩ := id cx
            obtain ⟨h1, h2, h3⟩ := hs
            rcases hC with hC | ⟨-, c1, c2, c3⟩
            · omega
            · exact W.objInit hx hb hown (hE.w _ c1) (hE.w _ c2) (hE.w _ c3) rfl (by show arr.size = c.maxLocals; rw [hml]; exact hl.1) rfl (hde rfl) h1 (by show 2 * 0 + _ + 12 ≤ lo; omega) (hY' _ _ _ _ _ _ _ _ _ _ h3 mi hmi p e s m args below meth c H locs arr sz0 sl0 cx hl hP hB)
          · exact hs.elim
        · rename_i hz
          have hz0 : z = 0 := by
            rcases hC with hC | hC
            · exact hC
            · exact absurd hC.1 hz
          obtain ⟨mi', n, g1, g2, g3, g4, g5, g6, g7, g8⟩ := hS hz0
          simp only [callP, g1] at hs
          obtain ⟨q1, q2, q3, q4, q5, q6, Qc, q7, q8⟩ := hs
          obtain ⟨e1, e2⟩ := take_rev q1
          generalize (st.take mi'.na).reverse = A at e1 e2 q2 q3 q7
          rw [← e1]
          cases A with
          | nil => exact q2.elim
          | cons v As =>
            cases v with
            | ref b =>
              have hn9 : As.length = n := by simp at e2; omega
              have e3 : (Value.ref b :: As).reverse ++ st.drop mi'.na = As.reverse ++ .ref b :: st.drop mi'.na := by simp
              rw [e3]
              exact j_callI hmi cx hl hP hB (hde rfl) g1 (by rw [hn9]; exact g3) g4 g5 g6 g7 g8 q3 q4 q5 q6 (hY' _ _ _ _ _ _ _ _ _ _ q7) hc9 (fun o M' sz' sl' hq => back_mono hY' (q8 o M' sz' sl' hq))
            | _ => exact q2.elim
      | ireturn =>
        simp only [memS] at hs
        split at hs
        · obtain ⟨⟨mi9, t, f1, f2, f3⟩, h5⟩ := hs
          cases hmi.symm.trans f1
          obtain ⟨hx, hb, hml, hrt, hown, hlk, -, -, hE⟩ := id cx
          exact j_end hP hB h5 (fun t _ => rfl) (W.zret hx hb (hrt.trans f2) f3 (fun t ht _ => ⟨rfl, ht⟩) hB.2.2.2.2.2.2.2 (hde rfl) hlk) hE
        · exact hs.elim
      | lreturn =>
        simp only [memS] at hs
        split at hs
        · obtain ⟨hx, hb, hml, hrt, hown, hlk, -, -, hE⟩ := id cx
          exact j_end hP hB hs (fun t _ => rfl) (W.lret hx hb (hrt.trans hS) (fun t ht _ => ⟨rfl, ht⟩) hB.2.2.2.2.2.2.2 (hde rfl) hlk) hE
        · exact hs.elim
      | return_ =>
        simp only [memS] at hs
        split at hs
        · obtain ⟨hx, hb, hml, hrt, hown, hlk, -, -, hE⟩ := id cx
          exact j_end hP hB hs (fun t _ => rfl) (W.vret hx hb (hrt.trans hS) (fun t ht _ => ⟨rfl, ht⟩) hB.2.2.2.2.2.2.2 (hde rfl) hlk) hE
        · exact hs.elim
      | _ => exact (by simpa only [memS] using hs : False).elim
end CC
