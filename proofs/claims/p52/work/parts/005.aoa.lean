/-- arrays over arrays, whatever the arguments: the printed names ask for this word, the kit of a claim with draws lacks it -/
def va_AOA (ty : FieldType) (s : State) : Prop := ∀ args : Array Value, (Cond.arrayOver (.array ty)).before args s = true
theorem va_AOA.use {ty : FieldType} {s : State} {args : Array Value} (h : va_AOA ty s) : (Cond.arrayOver (.array ty)).before args s = true := h args
