/-- how many constant cells there are: 39 words, their 39 texts, 9 messages, Word.ALL, the switch table, the script -/
def ax_nC : Nat := 129
