
def allck : List (List MT) → List (Nat × Nat × Nat × Nat × Nat) → List (MethodName × ByteArray × Option FieldType) → Bool
  | t :: ts, i :: is, y :: ys => t.all (fun e => chk i.1 y.2.1 e) && allck ts is ys
  | _, _, _ => true
theorem allck_c {t : List MT} {ts : List (List MT)} {i : Nat × Nat × Nat × Nat × Nat} {is : List (Nat × Nat × Nat × Nat × Nat)} {y : MethodName × ByteArray × Option FieldType} {ys : List (MethodName × ByteArray × Option FieldType)} (h : t.all (fun e => chk i.1 y.2.1 e) = true) (h2 : allck ts is ys = true) : allck (t :: ts) (i :: is) (y :: ys) = true := by
  simp only [allck, h, h2, Bool.and_self]
theorem allck_g : ∀ {ts : List (List MT)} {is : List (Nat × Nat × Nat × Nat × Nat)} {ys : List (MethodName × ByteArray × Option FieldType)}, allck ts is ys = true → ts.length ≤ is.length → ts.length ≤ ys.length → ∀ (m : Nat) (e : MT), e ∈ ts.getD m [] → chk (is.getD m (99, 0, 0, 0, 0)).1 (ys.getD m (⟨"", "", ""⟩, ⟨#[]⟩, none)).2.1 e = true
  | [], _, _, _, _, _, m, e, he => by simp at he
  | t :: ts, [], _, _, h1, _, _, _, _ => by simp at h1
  | t :: ts, i :: is, [], _, _, h2, _, _, _ => by simp at h2
  | t :: ts, i :: is, y :: ys, h, h1, h2, 0, e, he => by
    simp only [allck, Bool.and_eq_true] at h
    exact List.all_eq_true.mp h.1 e (by simpa using he)
  | t :: ts, i :: is, y :: ys, h, h1, h2, m + 1, e, he => by
    simp only [allck, Bool.and_eq_true] at h
    have := allck_g h.2 (by simpa using h1) (by simpa using h2) m e (by simpa using he)
    simpa using this
set_option maxRecDepth 100000 in
theorem allck_ok : allck mtabs minf YB = true := allck_c ck0 (allck_c ck1 (allck_c ck2 (allck_c ck3 (allck_c ck4 (allck_c ck5 (allck_c ck6 (allck_c ck7 (allck_c ck8 (allck_c ck9 (allck_c ck10 (allck_c ck11 (allck_c ck12 (allck_c ck13 (allck_c ck14 (allck_c ck15 (allck_c ck16 (allck_c ck17 (allck_c ck18 (allck_c ck19 (allck_c ck20 (allck_c ck21 (allck_c ck22 (allck_c ck23 (allck_c ck24 (allck_c ck25 (allck_c ck26 (allck_c ck27 (allck_c ck28 (allck_c ck29 (allck_c ck30 (allck_c ck31 (allck_c ck32 (allck_c ck33 (allck_c ck34 (allck_c ck35 (allck_c ck36 (allck_c ck37 (allck_c ck38 (allck_c ck39 (allck_c ck40 (allck_c ck41 (allck_c ck42 (allck_c ck43 (allck_c ck44 (allck_c ck45 (allck_c ck46 (allck_c ck47 (allck_c ck48 (allck_c ck49 (allck_c ck50 (allck_c ck51 (allck_c ck52 (allck_c ck53 (allck_c ck54 (allck_c ck55 (allck_c ck56 (allck_c ck57 (allck_c ck58 (allck_c ck59 (allck_c ck60 (allck_c ck61 (allck_c ck62 (allck_c ck63 (allck_c ck64 (allck_c ck65 (allck_c ck66 (allck_c ck67 (allck_c ck68 (allck_c ck69 (allck_c ck70 (allck_c ck71 (allck_c ck72 (allck_c ck73 (allck_c ck74 (allck_c ck75 (allck_c ck76 (allck_c ck77 (allck_c ck78 (allck_c ck79 (allck_c ck80 (allck_c ck81 (allck_c ck82 (allck_c ck83 (allck_c ck84 (allck_c ck85 (allck_c ck86 (allck_c ck87 (allck_c ck88 (allck_c ck89 (allck_c ck90 (allck_c ck91 (allck_c ck92 (allck_c ck93 (allck_c ck94 (allck_c ck95 (allck_c ck96 (allck_c ck97 (allck_c ck98 (allck_c ck99 (allck_c ck100 (allck_c ck101 (allck_c ck102 (allck_c ck103 (allck_c ck104 (allck_c ck105 (allck_c ck106 (allck_c ck107 (allck_c ck108 (allck_c ck109 (allck_c ck110 (allck_c ck111 (allck_c ck112 (allck_c ck113 (allck_c ck114 (allck_c ck115 (allck_c ck116 (allck_c ck117 (allck_c ck118 (allck_c ck119 (allck_c ck120 (allck_c ck121 (allck_c ck122 (allck_c ck123 (allck_c ck124 (allck_c ck125 (allck_c ck126 (allck_c ck127 (allck_c ck128 (allck_c ck129 (allck_c ck130 (allck_c ck131 (allck_c ck132 (allck_c ck133 (allck_c ck134 (allck_c ck135 (allck_c ck136 (allck_c ck137 (allck_c ck138 (allck_c ck139 (allck_c ck140 (allck_c ck141 (allck_c ck142 (allck_c ck143 (allck_c ck144 (allck_c ck145 (allck_c ck146 (allck_c ck147 (allck_c ck148 (allck_c ck149 (allck_c ck150 (allck_c ck151 (allck_c ck152 (allck_c ck153 (allck_c ck154 (allck_c ck155 (allck_c ck156 (allck_c ck157 (allck_c ck158 (allck_c ck159 (allck_c ck160 (allck_c ck161 (allck_c ck162 (allck_c ck163 (allck_c ck164 (allck_c ck165 (allck_c ck166 (allck_c ck167 (allck_c ck168 (allck_c ck169 (allck_c ck170 (allck_c ck171 (allck_c ck172 (allck_c ck173 (allck_c ck174 (allck_c ck175 (allck_c ck176 (allck_c ck177 (allck_c ck178 (allck_c ck179 (allck_c ck180 (allck_c ck181 (allck_c ck182 (allck_c ck183 (allck_c ck184 (allck_c ck185 (allck_c ck186 (allck_c ck187 (allck_c ck188 (allck_c ck189 (allck_c ck190 (allck_c ck191 (allck_c ck192 (allck_c ck193 (allck_c ck194 (allck_c ck195 (allck_c ck196 (allck_c ck197 (allck_c ck198 (allck_c ck199 (allck_c ck200 (allck_c ck201 (allck_c ck202 (allck_c ck203 (allck_c ck204 (allck_c ck205 (allck_c ck206 (allck_c ck207 (allck_c ck208 (allck_c ck209 (allck_c ck210 (allck_c ck211 (allck_c ck212 (allck_c ck213 (allck_c ck214 (allck_c ck215 (allck_c ck216 (allck_c ck217 (allck_c ck218 (allck_c ck219 (allck_c ck220 (allck_c ck221 (allck_c ck222 (allck_c ck223 (allck_c ck224 (allck_c ck225 (allck_c ck226 (allck_c ck227 (allck_c ck228 (allck_c ck229 (allck_c ck230 (allck_c ck231 (allck_c ck232 (allck_c ck233 (allck_c ck234 (allck_c ck235 (allck_c ck236 (allck_c ck237 (allck_c ck238 (allck_c ck239 (allck_c ck240 (allck_c ck241 (allck_c ck242 (allck_c ck243 (allck_c ck244 (allck_c ck245 (allck_c ck246 (allck_c ck247 (allck_c ck248 (allck_c ck249 (allck_c ck250 (allck_c ck251 (allck_c ck252 (allck_c ck253 (allck_c ck254 (allck_c ck255 (allck_c ck256 (allck_c ck257 (allck_c ck258 (allck_c ck259 (allck_c ck260 (allck_c ck261 (allck_c ck262 (allck_c ck263 (allck_c ck264 (allck_c ck265 (allck_c ck266 (allck_c ck267 (allck_c ck268 (allck_c ck269 (allck_c ck270 (allck_c ck271 (allck_c ck272 (allck_c ck273 (allck_c ck274 (allck_c ck275 (allck_c ck276 (allck_c ck277 (allck_c ck278 (allck_c ck279 (allck_c ck280 (allck_c ck281 (allck_c ck282 (allck_c ck283 (allck_c ck284 (allck_c ck285 (allck_c ck286 (allck_c ck287 (allck_c ck288 (allck_c ck289 ((rfl : allck [] [] [] = true)))))))))))))))))))))))))))))))))))))))))))))))))))))))))))))))))))))))))))))))))))))))))))))))))))))))))))))))))))))))))))))))))))))))))))))))))))))))))))))))))))))))))))))))))))))))))))))))))))))))))))))))))))))))))))))))))))))))))))))))))))))))))))))))))))))))))))))))))))))))))))))))))))
theorem mcode_mem {m pc : Nat} {e : Instr × Nat × Nat × Nat} (h : mcode m pc = some e) : (pc, e) ∈ mtabs.getD m [] := by
  unfold mcode at h
  cases hf : (mtabs.getD m []).find? (fun e => e.1 == pc) with
  | none => rw [hf] at h; cases h
  | some x =>
    rw [hf] at h
    have h1 := List.mem_of_find?_eq_some hf
    have h2 := List.find?_some hf
    have h3 : x.1 = pc := by simpa using h2
    have h4 : x.2 = e := by simpa using h
    rw [← h3, ← h4]
    exact h1
theorem mcode_chk {m pc : Nat} {e : Instr × Nat × Nat × Nat} (h : mcode m pc = some e) : chk (mCI m) (mB m) (pc, e) = true := allck_g allck_ok (by decide +kernel) (by decide +kernel) m (pc, e) (mcode_mem h)
theorem mcode_dec {m pc : Nat} {e : Instr × Nat × Nat × Nat} (h : mcode m pc = some e) : decode (mB m) pc = .ok (e.1, e.2.1) := by
  have h1 := mcode_chk h
  unfold chk at h1
  rw [Bool.and_eq_true] at h1
  exact of_decide_eq_true h1.1
